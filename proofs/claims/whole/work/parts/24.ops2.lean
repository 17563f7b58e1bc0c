/-! size, state, call -/
theorem dR_upd {N M : Nat} {kO vO cO tO fm to : List Int32} {pu pu2 : Nat} {A B px : Nat → Nat} {an : Nat → Int32} {dyn : mi_H} {i k : Nat} {v c t v2 c2 t2 an2 : Int32} {p2 : Nat} (hd : dR N M kO vO cO tO fm to pu A B px an dyn) (hi : i < N) (hk : k < 11) (hkO : kO[i]? = some (nI k)) (hv : vO[i]? = some v) (hc : cO[i]? = some c) (ht : tO[i]? = some t) (hp2 : p2 ≤ pu2) (hpp : pu ≤ pu2) :
  dR N M kO (vO.set i v2) (cO.set i c2) (tO.set i t2) fm to pu2 A B (fun j => if j = i then p2 else px j) (fun j => if j = i then an2 else an j) (dyn.set (A i) (dvc k v2 c2 (nI (cnt fm M (nI i))) (nI (cnt to M (nI i))) t2 (nI p2) an2 (rfB B (nx fm M (nI i) 0)) (rfB B (lst fm M (nI i))))) := by
  obtain ⟨h1, h2, h3, h4⟩ := hd
  refine ⟨h1, h2, fun j hj => ?_, fun l hl => ?_⟩
  · by_cases e : j = i
    · subst e
      obtain ⟨k', v', c', t', -, -, -, -, -, -, hcell⟩ := h3 j hj
      refine ⟨k, v2, c2, t2, hk, hkO, md_set_at hv, md_set_at hc, md_set_at ht, by simp only [if_true]; exact hp2, ?_⟩
      simp only [if_true]
      exact mi_set_at hcell
    · obtain ⟨k', v', c', t', g1, g2, g3, g4, g5, g6, hcell⟩ := h3 j hj
      have e2 : i ≠ j := fun z => e z.symm
      refine ⟨k', v', c', t', g1, g2, by rw [List.getElem?_set_ne e2]; exact g3, by rw [List.getElem?_set_ne e2]; exact g4, by rw [List.getElem?_set_ne e2]; exact g5, by simp only [if_neg e]; omega, ?_⟩
      simp only [if_neg e]
      rw [List.getElem?_set_ne (fun z => e2 (h1 i j hi hj z))]
      exact hcell
  · obtain ⟨f, t', g1, g2, g3, g4, hcell⟩ := h4 l hl
    refine ⟨f, t', g1, g2, g3, g4, ?_⟩
    obtain ⟨k', v', c', t'', -, -, -, -, -, -, hcell2⟩ := h3 i hi
    have hne : A i ≠ B l := fun z => by
      rw [z, hcell] at hcell2
      have := Sum.inl.inj (Option.some.inj hcell2)
      cases congrArg Prod.fst this
    rw [List.getElem?_set_ne hne]
    exact hcell
theorem dR_act {N M : Nat} {kO vO cO tO fm to : List Int32} {pu : Nat} {A B px : Nat → Nat} {an : Nat → Int32} {dyn : mi_H} {i k : Nat} {v c t v2 c2 : Int32} (hd : dR N M kO vO cO tO fm to pu A B px an dyn) (hi : i < N) (hk : k < 11) (hkO : kO[i]? = some (nI k)) (hv : vO[i]? = some v) (hc : cO[i]? = some c) (ht : tO[i]? = some t) (hp : px i ≤ pu) :
  dR N M kO (vO.set i v2) (cO.set i c2) tO fm to pu A B px an (dyn.set (A i) (dvc k v2 c2 (nI (cnt fm M (nI i))) (nI (cnt to M (nI i))) t (nI (px i)) (an i) (rfB B (nx fm M (nI i) 0)) (rfB B (lst fm M (nI i))))) := by
  have z := dR_upd (v2 := v2) (c2 := c2) (t2 := t) (an2 := an i) (p2 := px i) hd hi hk hkO hv hc ht hp (Nat.le_refl pu)
  rw [md_set_same ht] at z
  have e1 : (fun j => if j = i then px i else px j) = px := by funext j; by_cases e : j = i <;> simp [e]
  have e2 : (fun j => if j = i then an i else an j) = an := by funext j; by_cases e : j = i <;> simp [e]
  rw [e1, e2] at z
  exact z
theorem szc_set {dyn : mi_H} {a : Nat} {c : mi_C} (h : ∀ c ∈ dyn, mi_szc c ≤ 12) (hc : mi_szc c ≤ 12) : ∀ x ∈ dyn.set a c, mi_szc x ≤ 12 := fun x hx => by
  rcases List.mem_or_eq_of_mem_set hx with q | q
  · exact h x q
  · rw [q]; exact hc
theorem szc_dvc (k : Nat) (v c og ic t p an : Int32) (fl ll : Value) : mi_szc (dvc k v c og ic t p an fl ll) ≤ 12 := Nat.le_of_ble_eq_true rfl
theorem sI_act {N M : Nat} {stt stt2 : Int32} {q q2 : List Int32 × Nat} {kO vO cO tO fm to : List Int32} {i : Nat} {v2 c2 : Int32} (h : sI (N, M, stt, q, kO, vO, cO, tO, fm, to)) (hi : i < N) (h1 : q2.1.length = 64) (h2 : q2.2 < 2 ^ 20) : sI (N, M, stt2, q2, kO, vO.set i v2, cO.set i c2, tO, fm, to) := by
  obtain ⟨hN, hMm, -, -, lk, lv, lc, lt, lf, lo, hki, hli, hz⟩ := h
  refine ⟨hN, hMm, h1, h2, lk, by rw [List.length_set]; exact lv, by rw [List.length_set]; exact lc, lt, lf, lo, hki, hli, fun j hj hj2 => ?_⟩
  obtain ⟨z1, z2⟩ := hz j hj hj2
  exact ⟨by rw [List.getElem?_set_ne (by omega)]; exact z1, z2⟩
theorem sI_st {N M : Nat} {stt stt2 : Int32} {q : List Int32 × Nat} {kO vO cO tO fm to : List Int32} (h : sI (N, M, stt, q, kO, vO, cO, tO, fm, to)) : sI (N, M, stt2, q, kO, vO, cO, tO, fm, to) := h
/-- how many devices of the first j bear w -/
def nab (kO : List Int32) : Nat → Int32 → Nat
  | 0, _ => 0
  | j + 1, w => nab kO j w + (if abl (kO.getD j 0).toNatClampNeg w then 1 else 0)
theorem nab_le (kO : List Int32) (w : Int32) : ∀ j, nab kO j w ≤ j
  | 0 => Nat.le_refl 0
  | j + 1 => by
    have := nab_le kO w j
    show nab kO j w + _ ≤ _
    split <;> omega
def szf (N M : Nat) (kO : List Int32) (w : Int32) : Int32 := if w = 0 then nI N else if w = 1 then nI M else if rgb w 7 then nI (nab kO N w) else -1
theorem s_cCount {D N M : Nat} {w : Int32} {tc stt : Int32} {pu : Nat} {q : List Int32 × Nat} {dv tk : List (Option Nat)} {dyn : mi_H} {kO vO cO tO fm to : List Int32} {A B px : Nat → Nat} {an : Nat → Int32} (hN : N ≤ 300) (hdv : ∀ i, i < N → dv[i]? = some (some (A i + 6))) (hd : dR N M kO vO cO tO fm to pu A B px an dyn) (hD : 3 ≤ D) : mi_WC D 55 [.ref 0, .int w] (kh (nI N) (nI M) tc (nI pu) stt q dv tk dyn) (fun r' h' => r' = some (.int (nI (nab kO N w))) ∧ h' = kh (nI N) (nI M) tc (nI pu) stt q dv tk dyn) := by
  obtain ⟨D, rfl⟩ : ∃ D', D = D' + 2 + 1 := ⟨D - 3, by omega⟩
  have loop : ∀ r j, j + r = N → ∀ l4, mi_W (D + 2) mi_m55 (4, [some (.ref 0), some (.int w), some (.int (nI (nab kO j w))), some (.int (nI j)), l4], [], kh (nI N) (nI M) tc (nI pu) stt q dv tk dyn) (fun r' h' => r' = some (.int (nI (nab kO N w))) ∧ h' = kh (nI N) (nI M) tc (nI pu) stt q dv tk dyn) := by
    intro r
    induction r with
    | zero =>
      intro j hj l4
      have e : j = N := by omega
      subst e
      refine w_iload_n mi_a55_4 rfl ?_
      refine w_aload_n mi_a55_5 rfl ?_
      refine w_get mi_a55_6 rfl rfl rfl ?_
      refine w_icmp_ge mi_a55_9 50 (by decide) (fun _ => ?_) (fun z => absurd (nI_le (Nat.le_refl j) (by omega)) z)
      refine w_iload_n mi_a55_50 rfl ?_
      exact w_ireturn mi_a55_51 rfl ⟨rfl, rfl⟩
    | succ r ih =>
      intro j hj l4
      have hj2 : j < N := by omega
      obtain ⟨k, v, c, t, hk, hkO, hv, hc, ht, hp, hcell⟩ := dR_cell hd hj2
      have nxt : ∀ (n2 : Nat) (l4 : Option Value), n2 = nab kO (j + 1) w → mi_W (D + 2) mi_m55 (44, [some (.ref 0), some (.int w), some (.int (nI n2)), some (.int (nI j)), l4], [], kh (nI N) (nI M) tc (nI pu) stt q dv tk dyn) (fun r' h' => r' = some (.int (nI (nab kO N w))) ∧ h' = kh (nI N) (nI M) tc (nI pu) stt q dv tk dyn) := by
        intro n2 l4 hn2
        subst hn2
        refine w_iincv mi_a55_44 rfl (nI_succ j).symm ?_
        refine w_goto mi_a55_47 4 (by decide) ?_
        exact ih (j + 1) (by omega) l4
      refine w_iload_n mi_a55_4 rfl ?_
      refine w_aload_n mi_a55_5 rfl ?_
      refine w_get mi_a55_6 rfl rfl rfl ?_
      refine w_icmp_ge mi_a55_9 50 (by decide) (fun z => absurd z (nI_ge hj2 (by omega))) (fun _ => ?_)
      refine w_iload_n mi_a55_12 rfl ?_
      refine w_sipushv (v := 300) mi_a55_13 (by decide) ?_
      refine w_icmp_ge mi_a55_16 50 (by decide) (fun z => absurd z (nI_ge (a := j) (b := 300) (by omega) (by decide))) (fun _ => ?_)
      refine w_aload_n mi_a55_19 rfl ?_
      refine w_get mi_a55_20 rfl rfl rfl ?_
      refine w_iload_n mi_a55_23 rfl ?_
      refine w_aald mi_a55_24 rfl (nI_pos (by omega)) (by rw [nI_clamp (by omega)]; exact hdv j hj2) ?_
      refine w_astore mi_a55_25 (Nat.le_of_ble_eq_true rfl) ?_
      refine w_aload mi_a55_27 rfl ?_
      refine w_ifnull mi_a55_29 ?_
      refine w_aload mi_a55_32 rfl ?_
      refine w_iload_n mi_a55_34 rfl ?_
      refine w_callV mi_a55_35 rfl rfl 1 ⟨rfl, rfl⟩ ⟨Nat.le_of_ble_eq_true rfl, Nat.le_of_ble_eq_true rfl⟩ rfl hcell rfl rfl (mi_WC.mono (s_bears (d := 0) hcell) (by omega)) ?_
      rintro r' h' ⟨rfl, rfl⟩
      have hkk := nI_kind (N := N) hk hkO
      refine w_if_eq mi_a55_38 44 (by decide) (fun c38 => ?_) (fun c38 => ?_)
      · refine nxt _ _ ?_
        show _ = nab kO j w + _
        rw [hkk, if_neg (by rw [(b01_eq0 _).mp c38]; decide)]
        omega
      · refine w_iincv mi_a55_41 rfl (nI_succ _).symm ?_
        refine nxt _ _ ?_
        show _ = nab kO j w + _
        rw [hkk, if_pos ((b01_ne0 _).mp c38)]
  refine mi_WC.of (X := mi_m55) rfl (Nat.le_of_ble_eq_true rfl) ?_
  refine w_iconstv (v := 0) mi_a55_0 (by decide) ?_
  refine w_istore_n mi_a55_1 (Nat.le_of_ble_eq_true rfl) ?_
  refine w_iconstv (v := 0) mi_a55_2 (by decide) ?_
  refine w_istore_n mi_a55_3 (Nat.le_of_ble_eq_true rfl) ?_
  exact loop N 0 (by omega) none
theorem op_size (w : Int32) : opk 47 87 [.int w] := by
  intro Pm S hx hm hPm hI hC hM
  obtain ⟨N, M, stt, q, kO, vO, cO, tO, fm, to⟩ := S
  obtain ⟨hN, hMm, hq, hq2, lk, lv, lc, lt, lf, lo, hki, hli, hz⟩ := id hI
  obtain ⟨pu, tc, dv, tk, dyn, A, B, px, an, hpu, ldv, ltk, ldyn, hszd, hdv, hd, ehx⟩ := id hC
  obtain ⟨fr, pl, rw, aw, zi, fB, fA, fX, pi, lrw, law, lzi, lfB, lfA, lfX, lpi, ehm⟩ := id hM
  refine ⟨szf N M kO w, (N, M, stt, q, kO, vO, cO, tO, fm, to), hI, ?_, ?_⟩
  · refine mi_WC.mono (d := 4) ?_ (by decide)
    subst ehx
    refine mi_WC.of (X := mi_m47) rfl (Nat.le_of_ble_eq_true rfl) ?_
    refine w_iload_n mi_a47_0 rfl ?_
    refine w_if_ne mi_a47_1 9 (by decide) (fun c1 => ?_) (fun c1 => ?_)
    rotate_left
    · 
      refine w_aload_n mi_a47_4 rfl ?_
      refine w_get mi_a47_5 rfl rfl rfl ?_
      exact w_ireturn mi_a47_8 rfl ⟨by unfold szf; rw [if_pos c1], cR_up (Nat.le_succ _) hC⟩
    refine w_iload_n mi_a47_9 rfl ?_
    refine w_iconstv (v := 1) mi_a47_10 (by decide) ?_
    refine w_icmp_ne mi_a47_11 19 (by decide) (fun c11 => ?_) (fun c11 => ?_)
    rotate_left
    · 
      refine w_aload_n mi_a47_14 rfl ?_
      refine w_get mi_a47_15 rfl rfl rfl ?_
      exact w_ireturn mi_a47_18 rfl ⟨by unfold szf; rw [if_neg c1, if_pos c11], cR_up (Nat.le_succ _) hC⟩
    refine w_iload_n mi_a47_19 rfl ?_
    refine w_callS mi_a47_20 rfl rfl 1 ⟨rfl, rfl⟩ ⟨Nat.le_of_ble_eq_true rfl, Nat.le_of_ble_eq_true rfl⟩ (s_cWay (d := 2)) ?_
    rintro r' h' ⟨rfl, rfl⟩
    refine w_if_eq mi_a47_23 34 (by decide) (fun c23 => ?_) (fun c23 => ?_)
    · refine w_iconstv (v := (-1)) mi_a47_34 (by decide) ?_
      refine w_ireturn mi_a47_35 rfl ⟨?_, cR_up (Nat.le_succ _) hC⟩
      unfold szf
      rw [if_neg c1, if_neg c11, (b01_eq0 _).mp c23]
      rfl
    refine w_aload_n mi_a47_26 rfl ?_
    refine w_iload_n mi_a47_27 rfl ?_
    refine w_callV mi_a47_28 rfl rfl 1 ⟨rfl, rfl⟩ ⟨Nat.le_of_ble_eq_true rfl, Nat.le_of_ble_eq_true rfl⟩ rfl rfl rfl rfl (s_cCount hN hdv hd (by omega)) ?_
    rintro r' h' ⟨rfl, rfl⟩
    refine w_goto mi_a47_31 35 (by decide) ?_
    refine w_ireturn mi_a47_35 rfl ⟨?_, cR_up (Nat.le_succ _) hC⟩
    unfold szf
    rw [if_neg c1, if_neg c11, (b01_ne0 _).mp c23]
    rfl
  · refine mi_WC.mono (d := 3) ?_ (by decide)
    subst ehm
    refine mi_WC.of (X := mi_m87) rfl (Nat.le_of_ble_eq_true rfl) ?_
    have no : ∀ L : List (Option Value), rgb w 7 = false → mi_W 2 mi_m87 (10, L, [], mh (nI N) (nI M) stt fr pl q kO vO cO tO fm to rw aw zi fB fA fX pi) (fun r' h' => r' = some (.int (szf N M kO w)) ∧ mR (N, M, stt, q, kO, vO, cO, tO, fm, to) h') := by
      intro L hf
      refine w_iconstv (v := (-1)) mi_a87_10 (by decide) ?_
      refine w_ireturn mi_a87_11 rfl ⟨?_, hM⟩
      unfold szf
      have n0 : ¬ w = 0 := fun z => by rw [z] at hf; revert hf; decide
      have n1 : ¬ w = 1 := fun z => by rw [z] at hf; revert hf; decide
      rw [if_neg n0, if_neg n1, hf]
      rfl
    refine w_iload_n mi_a87_0 rfl ?_
    refine w_if_lt mi_a87_1 10 (by decide) (fun z => no _ (rgb_f0 z)) (fun c1 => ?_)
    refine w_iload_n mi_a87_4 rfl ?_
    refine w_bipushv (v := 7) mi_a87_5 (by decide) ?_
    refine w_icmp_lt mi_a87_7 12 (by decide) (fun c7 => ?_) (fun z => no _ (rgb_f1 (Int32.not_lt.mp z)))
    have hw : rgb w 7 = true := rgb_t.mpr ⟨c1, c7⟩
    refine w_iload_n mi_a87_12 rfl ?_
    refine w_iconstv (v := 2) mi_a87_13 (by decide) ?_
    refine w_icmp_ge mi_a87_14 33 (by decide) (fun c14 => ?_) (fun c14 => ?_)
    rotate_left
    · have h01 : w = 0 ∨ w = 1 := by
        obtain ⟨j, hj, rfl⟩ := rgb_at (n := 7) (by decide) hw
        have : ¬ 2 ≤ j := fun z => c14 (nI_le (a := 2) z (by omega))
        have : j = 0 ∨ j = 1 := by omega
        rcases this with rfl | rfl
        · exact Or.inl rfl
        · exact Or.inr rfl
      refine w_iload_n mi_a87_17 rfl ?_
      refine w_if_ne mi_a87_18 28 (by decide) (fun c18 => ?_) (fun c18 => ?_)
      · have h1 : w = 1 := h01.resolve_left c18
        refine w_aload_n mi_a87_28 rfl ?_
        refine w_get mi_a87_29 rfl rfl rfl ?_
        exact w_ireturn mi_a87_32 rfl ⟨by unfold szf; rw [if_neg c18, if_pos h1], hM⟩
      · 
        refine w_aload_n mi_a87_21 rfl ?_
        refine w_get mi_a87_22 rfl rfl rfl ?_
        refine w_goto mi_a87_25 32 (by decide) ?_
        exact w_ireturn mi_a87_32 rfl ⟨by unfold szf; rw [if_pos c18], hM⟩
    have n0 : ¬ w = 0 := fun z => by rw [z] at c14; revert c14; decide
    have n1 : ¬ w = 1 := fun z => by rw [z] at c14; revert c14; decide
    have ef : szf N M kO w = nI (nab kO N w) := by unfold szf; rw [if_neg n0, if_neg n1, hw]; rfl
    rw [ef]
    have loop : ∀ r j, j + r = N → mi_W 2 mi_m87 (37, [some (.ref 0), some (.int w), some (.int (nI (nab kO j w))), some (.int (nI j))], [], mh (nI N) (nI M) stt fr pl q kO vO cO tO fm to rw aw zi fB fA fX pi) (fun r' h' => r' = some (.int (nI (nab kO N w))) ∧ mR (N, M, stt, q, kO, vO, cO, tO, fm, to) h') := by
      intro r
      induction r with
      | zero =>
        intro j hj
        have e : j = N := by omega
        subst e
        refine w_iload_n mi_a87_37 rfl ?_
        refine w_aload_n mi_a87_38 rfl ?_
        refine w_get mi_a87_39 rfl rfl rfl ?_
        refine w_icmp_ge mi_a87_42 63 (by decide) (fun _ => ?_) (fun z => absurd (nI_le (Nat.le_refl j) (by omega)) z)
        refine w_iload_n mi_a87_63 rfl ?_
        exact w_ireturn mi_a87_64 rfl ⟨rfl, hM⟩
      | succ r ih =>
        intro j hj
        have hj2 : j < N := by omega
        obtain ⟨k, hk, hkO⟩ := hki j hj2
        have nxt : ∀ (n2 : Nat), n2 = nab kO (j + 1) w → mi_W 2 mi_m87 (57, [some (.ref 0), some (.int w), some (.int (nI n2)), some (.int (nI j))], [], mh (nI N) (nI M) stt fr pl q kO vO cO tO fm to rw aw zi fB fA fX pi) (fun r' h' => r' = some (.int (nI (nab kO N w))) ∧ mR (N, M, stt, q, kO, vO, cO, tO, fm, to) h') := by
          intro n2 hn2
          subst hn2
          refine w_iincv mi_a87_57 rfl (nI_succ j).symm ?_
          refine w_goto mi_a87_60 37 (by decide) ?_
          exact ih (j + 1) (by omega)
        refine w_iload_n mi_a87_37 rfl ?_
        refine w_aload_n mi_a87_38 rfl ?_
        refine w_get mi_a87_39 rfl rfl rfl ?_
        refine w_icmp_ge mi_a87_42 63 (by decide) (fun z => absurd z (nI_ge hj2 (by omega))) (fun _ => ?_)
        refine w_aload_n mi_a87_45 rfl ?_
        refine w_iload_n mi_a87_46 rfl ?_
        refine w_iload_n mi_a87_47 rfl ?_
        refine w_callV mi_a87_48 rfl rfl 2 ⟨rfl, rfl⟩ ⟨Nat.le_of_ble_eq_true rfl, Nat.le_of_ble_eq_true rfl⟩ rfl rfl rfl rfl (s_mAble (d := 0) (by omega) hk hkO hw) ?_
        rintro r' h' ⟨rfl, rfl⟩
        have hkk := nI_kind (N := N) hk hkO
        refine w_if_eq mi_a87_51 57 (by decide) (fun c51 => ?_) (fun c51 => ?_)
        · refine nxt _ ?_
          show _ = nab kO j w + _
          rw [hkk, if_neg (by rw [(b01_eq0 _).mp c51]; decide)]
          omega
        · refine w_iincv mi_a87_54 rfl (nI_succ _).symm ?_
          refine nxt _ ?_
          show _ = nab kO j w + _
          rw [hkk, if_pos ((b01_ne0 _).mp c51)]
    refine w_iconstv (v := 0) mi_a87_33 (by decide) ?_
    refine w_istore_n mi_a87_34 (Nat.le_of_ble_eq_true rfl) ?_
    refine w_iconstv (v := 0) mi_a87_35 (by decide) ?_
    refine w_istore_n mi_a87_36 (Nat.le_of_ble_eq_true rfl) ?_
    exact loop N 0 (by omega)
theorem wyk_ok {k : Nat} {a w : Int32} (h : wyk k a w = 0) : abl k w = true ∧ isof k a w = true := by
  unfold wyk at h
  cases h1 : abl k w with
  | false => rw [h1, if_neg Bool.false_ne_true] at h; exact absurd h (by decide)
  | true =>
    rw [h1] at h
    cases h2 : isof k a w with
    | false => rw [h2, if_pos rfl, if_neg Bool.false_ne_true] at h; exact absurd h (by decide)
    | true => exact ⟨rfl, rfl⟩
theorem wyf_at {N i k : Nat} {kO : List Int32} {a w : Int32} (hN : N ≤ 300) (hi : i < N) (hk : k < 11) (hkO : kO[i]? = some (nI k)) : wyf (nI N) kO (nI i) a w = if rgb a 12 && rgb w 7 then wyk k a w else 1 := by
  unfold wyf
  rw [rgb_of (by omega) hi, nI_clamp (by omega), nI_kind (N := N) hk hkO]
  rfl
theorem wyf_ok {N : Nat} {kO : List Int32} {x a w : Int32} (hN : N ≤ 300) (hki : ∀ i, i < N → ∃ k, k < 11 ∧ kO[i]? = some (nI k)) (h : wyf (nI N) kO x a w = 0) : ∃ i k aa, i < N ∧ x = nI i ∧ k < 11 ∧ kO[i]? = some (nI k) ∧ aa < 12 ∧ a = nI aa ∧ rgb w 7 = true ∧ aok k aa = true := by
  cases hx : rgb x (nI N) with
  | false => unfold wyf at h; rw [hx] at h; revert h; simp
  | true =>
    obtain ⟨i, hi, rfl⟩ := rgb_at (by omega) hx
    obtain ⟨k, hk, hkO⟩ := hki i hi
    rw [wyf_at hN hi hk hkO] at h
    cases ha : rgb a 12 with
    | false => rw [ha] at h; revert h; simp
    | true =>
      cases hw : rgb w 7 with
      | false => rw [ha, hw] at h; revert h; simp
      | true =>
        rw [ha, hw] at h
        obtain ⟨aa, haa, rfl⟩ := rgb_at (n := 12) (by decide) ha
        obtain ⟨h1, h2⟩ := wyk_ok (show wyk k (nI aa) w = 0 from h)
        exact ⟨i, k, aa, hi, rfl, hk, hkO, haa, rfl, rfl, aok_of hk haa hw h1 h2⟩
theorem acR_len {k a : Nat} (hk : k < 11) (ha : a < 12) (h : aok k a = true) (x v c : Int32) (q : List Int32 × Nat) : (ac_kp (acR k a x v c).2.2.2 q).1.length = q.1.length ∧ (ac_kp (acR k a x v c).2.2.2 q).2 ≤ q.2 + 200 := by
  obtain ⟨b, -, -, -, htr, hl⟩ := acR_some hk ha h x v c
  rw [htr, ac_kp_len, ac_kp_ran]
  exact ⟨rfl, by omega⟩
/-- one act, as a step of the state -/
theorem cR_act {Pm : Nat} {N M : Nat} {stt : Int32} {q2 : List Int32 × Nat} {kO vO cO tO fm to : List Int32} {pu : Nat} {tc : Int32} {dv tk : List (Option Nat)} {dyn : mi_H} {A B px : Nat → Nat} {an : Nat → Int32} (hpu : pu ≤ Pm) (ldv : dv.length = 300) (ltk : tk.length = 300) (ldyn : dyn.length = N + M) (hszd : ∀ c ∈ dyn, mi_szc c ≤ 12) (hdv : ∀ i, i < N → dv[i]? = some (some (A i + 6))) (hd : dR N M kO vO cO tO fm to pu A B px an dyn) {i k : Nat} {v c t v2 c2 : Int32} (hi : i < N) (hk : k < 11) (hkO : kO[i]? = some (nI k)) (hv : vO[i]? = some v) (hc : cO[i]? = some c) (ht : tO[i]? = some t) (hp : px i ≤ pu) :
  cR Pm (N, M, stt, q2, kO, vO.set i v2, cO.set i c2, tO, fm, to) (kh (nI N) (nI M) tc (nI pu) stt q2 dv tk (dyn.set (A i) (dvc k v2 c2 (nI (cnt fm M (nI i))) (nI (cnt to M (nI i))) t (nI (px i)) (an i) (rfB B (nx fm M (nI i) 0)) (rfB B (lst fm M (nI i)))))) :=
  ⟨pu, tc, dv, tk, _, A, B, px, an, hpu, ldv, ltk, by rw [List.length_set]; exact ldyn, szc_set hszd (szc_dvc _ _ _ _ _ _ _ _ _ _), hdv, dR_act hd hi hk hkO hv hc ht hp, rfl⟩
theorem op_call (x a w y : Int32) : opk 38 77 [.int x, .int a, .int w, .int y] := by
  intro Pm S hx hm hPm hI hC hM
  obtain ⟨N, M, stt, q, kO, vO, cO, tO, fm, to⟩ := S
  obtain ⟨hN, hMm, hq, hq2, lk, lv, lc, lt, lf, lo, hki, hli, hz⟩ := id hI
  obtain ⟨pu, tc, dv, tk, dyn, A, B, px, an, hpu, ldv, ltk, ldyn, hszd, hdv, hd, ehx⟩ := id hC
  obtain ⟨fr, pl, rw, aw, zi, fB, fA, fX, pi, lrw, law, lzi, lfB, lfA, lfX, lpi, ehm⟩ := id hM
  by_cases h0 : wyf (nI N) kO x a w = 0
  · obtain ⟨i, k, aa, hi, rfl, hk, hkO, haa, rfl, hw, hok⟩ := wyf_ok hN hki h0
    obtain ⟨k', v, c, t, hk', hkO', hv, hc, ht, hp, hcell⟩ := dR_cell hd hi
    have ek : k' = k := by
      have e := Option.some.inj (hkO'.symm.trans hkO)
      rw [← nI_clamp (n := k') (by omega), e, nI_clamp (by omega)]
    subst ek
    have hla := acR_len hk haa hok y v c (q.1, 0)
    refine ⟨(acR k' aa y v c).1, (N, M, 0, ac_kp (acR k' aa y v c).2.2.2 (q.1, 0), kO, vO.set i (acR k' aa y v c).2.1, cO.set i (acR k' aa y v c).2.2.1, tO, fm, to), sI_act (stt := stt) (q := q) hI hi (hla.1.trans hq) (by have := hla.2; omega), ?_, ?_⟩
    · refine mi_WC.mono (d := 50) ?_ (by decide)
      subst ehx
      refine mi_WC.of (X := mi_m38) rfl (Nat.le_of_ble_eq_true rfl) ?_
      refine w_aload_n mi_a38_0 rfl ?_
      refine w_iload_n mi_a38_1 rfl ?_
      refine w_callV mi_a38_2 rfl rfl 1 ⟨rfl, rfl⟩ ⟨Nat.le_of_ble_eq_true rfl, Nat.le_of_ble_eq_true rfl⟩ rfl rfl rfl rfl ((s_find (d := 48) hN rfl hi (hdv i hi))) ?_
      rintro r' h' ⟨rfl, rfl⟩
      refine w_astore mi_a38_5 (Nat.le_of_ble_eq_true rfl) ?_
      refine w_aload_n mi_a38_7 rfl ?_
      refine w_aload mi_a38_8 rfl ?_
      refine w_iload_n mi_a38_10 rfl ?_
      refine w_iload_n mi_a38_11 rfl ?_
      refine w_callS mi_a38_12 rfl rfl 3 ⟨rfl, rfl⟩ ⟨Nat.le_of_ble_eq_true rfl, Nat.le_of_ble_eq_true rfl⟩ (s_refusal (d := 45) hcell) ?_
      rintro r' h' ⟨rfl, rfl⟩
      rw [← wyf_at hN hi hk hkO, h0]
      refine w_put mi_a38_15 rfl rfl (Nat.le_of_ble_eq_true rfl) rfl ?_
      refine w_aload mi_a38_18 rfl ?_
      refine w_ifnull mi_a38_20 ?_
      refine w_aload_n mi_a38_23 rfl ?_
      refine w_get mi_a38_24 rfl rfl rfl ?_
      refine w_if_eq mi_a38_27 32 (by decide) (fun _ => ?_) (fun z => absurd rfl z)
      refine w_aload_n mi_a38_32 rfl ?_
      refine w_get mi_a38_33 rfl rfl rfl ?_
      refine w_callV mi_a38_36 rfl rfl 0 ⟨rfl, rfl⟩ ⟨Nat.le_of_ble_eq_true rfl, Nat.le_of_ble_eq_true rfl⟩ rfl rfl rfl rfl (s_forget (n := nI N) (m := nI M) (tc := tc) (pu := nI pu) (stt := 0) (q := q) (dv := dv) (tk := tk) (dyn := dyn) (d := 48)) ?_
      rintro r' h' ⟨rfl, rfl⟩
      refine w_aload_n mi_a38_39 rfl ?_
      refine w_get mi_a38_40 rfl rfl rfl ?_
      refine w_aload mi_a38_43 rfl ?_
      refine w_iload_n mi_a38_45 rfl ?_
      refine w_iload mi_a38_46 rfl ?_
      refine w_iconstv (v := 0) mi_a38_48 (by decide) ?_
      refine w_callV mi_a38_49 rfl rfl 4 ⟨rfl, rfl⟩ ⟨Nat.le_of_ble_eq_true rfl, Nat.le_of_ble_eq_true rfl⟩ rfl rfl rfl rfl (c_act (by omega) hk haa hok hq (by show 0 < 2 ^ 30; decide) hcell) ?_
      rintro r' h' ⟨rfl, rfl⟩
      exact w_ireturn mi_a38_52 rfl ⟨rfl, cR_act (by omega) ldv ltk ldyn hszd hdv hd hi hk hkO hv hc ht hp⟩
    · refine mi_WC.mono (d := 50) ?_ (by decide)
      subst ehm
      refine mi_WC.of (X := mi_m77) rfl (Nat.le_of_ble_eq_true rfl) ?_
      refine w_aload_n mi_a77_0 rfl ?_
      refine w_iload_n mi_a77_1 rfl ?_
      refine w_iload_n mi_a77_2 rfl ?_
      refine w_iload_n mi_a77_3 rfl ?_
      refine w_callV mi_a77_4 rfl rfl 3 ⟨rfl, rfl⟩ ⟨Nat.le_of_ble_eq_true rfl, Nat.le_of_ble_eq_true rfl⟩ rfl rfl rfl rfl (s_why (d := 46) hN hki rfl) ?_
      rintro r' h' ⟨rfl, rfl⟩
      rw [h0]
      refine w_istore mi_a77_7 (Nat.le_of_ble_eq_true rfl) ?_
      refine w_iload mi_a77_9 rfl ?_
      refine w_if_eq mi_a77_11 21 (by decide) (fun _ => ?_) (fun z => absurd rfl z)
      refine w_aload_n mi_a77_21 rfl ?_
      refine w_callV mi_a77_22 rfl rfl 0 ⟨rfl, rfl⟩ ⟨Nat.le_of_ble_eq_true rfl, Nat.le_of_ble_eq_true rfl⟩ rfl rfl rfl rfl (s_mBegin (d := 48)) ?_
      rintro r' h' ⟨rfl, rfl⟩
      refine w_aload_n mi_a77_25 rfl ?_
      refine w_iload_n mi_a77_26 rfl ?_
      refine w_iload_n mi_a77_27 rfl ?_
      refine w_iload mi_a77_28 rfl ?_
      refine w_callV mi_a77_30 rfl rfl 3 ⟨rfl, rfl⟩ ⟨Nat.le_of_ble_eq_true rfl, Nat.le_of_ble_eq_true rfl⟩ rfl rfl rfl rfl (m_act (by omega) hk haa hok (by omega) hkO hv hc lfB lfA lfX lpi hq (by show 0 < 2 ^ 30; decide)) ?_
      rintro r' h' ⟨rfl, fB2, fA2, fX2, pi2, l1, l2, l3, l4, rfl⟩
      exact w_ireturn mi_a77_33 rfl ⟨rfl, 0, 0, rw, aw, zi, fB2, fA2, fX2, pi2, lrw, law, lzi, l1, l2, l3, l4, rfl⟩
  · refine ⟨0, (N, M, wyf (nI N) kO x a w, q, kO, vO, cO, tO, fm, to), sI_st (stt := stt) hI, ?_, ?_⟩
    · refine mi_WC.mono (d := 50) ?_ (by decide)
      subst ehx
      refine mi_WC.of (X := mi_m38) rfl (Nat.le_of_ble_eq_true rfl) ?_
      refine w_aload_n mi_a38_0 rfl ?_
      refine w_iload_n mi_a38_1 rfl ?_
      cases hr : rgb x (nI N) with
      | false =>
        have hf : wyf (nI N) kO x a w = 1 := by unfold wyf; rw [hr]; rfl
        refine w_callV mi_a38_2 rfl rfl 1 ⟨rfl, rfl⟩ ⟨Nat.le_of_ble_eq_true rfl, Nat.le_of_ble_eq_true rfl⟩ rfl rfl rfl rfl (s_findN (d := 48) hr) ?_
        rintro r' h' ⟨rfl, rfl⟩
        refine w_astoreN mi_a38_5 (Nat.le_of_ble_eq_true rfl) ?_
        refine w_aload_n mi_a38_7 rfl ?_
        refine w_aloadN mi_a38_8 rfl ?_
        refine w_iload_n mi_a38_10 rfl ?_
        refine w_iload_n mi_a38_11 rfl ?_
        refine w_callS mi_a38_12 rfl rfl 3 ⟨rfl, rfl⟩ ⟨Nat.le_of_ble_eq_true rfl, Nat.le_of_ble_eq_true rfl⟩ (s_refusalN (d := 48)) ?_
        rintro r' h' ⟨rfl, rfl⟩
        refine w_put mi_a38_15 rfl rfl (Nat.le_of_ble_eq_true rfl) rfl ?_
        refine w_aloadN mi_a38_18 rfl ?_
        refine w_ifnullN mi_a38_20 30 (by decide) ?_
        refine w_iconstv (v := 0) mi_a38_30 (by decide) ?_
        refine w_ireturn mi_a38_31 rfl ⟨rfl, ?_⟩
        rw [hf]
        exact ⟨pu, tc, dv, tk, dyn, A, B, px, an, by omega, ldv, ltk, ldyn, hszd, hdv, hd, rfl⟩
      | true =>
        obtain ⟨i, hi, rfl⟩ := rgb_at (n := N) (by omega) hr
        obtain ⟨k, v, c, t, hk, hkO, hv, hc, ht, hp, hcell⟩ := dR_cell hd hi
        refine w_callV mi_a38_2 rfl rfl 1 ⟨rfl, rfl⟩ ⟨Nat.le_of_ble_eq_true rfl, Nat.le_of_ble_eq_true rfl⟩ rfl rfl rfl rfl ((s_find (d := 48) hN rfl hi (hdv i hi))) ?_
        rintro r' h' ⟨rfl, rfl⟩
        refine w_astore mi_a38_5 (Nat.le_of_ble_eq_true rfl) ?_
        refine w_aload_n mi_a38_7 rfl ?_
        refine w_aload mi_a38_8 rfl ?_
        refine w_iload_n mi_a38_10 rfl ?_
        refine w_iload_n mi_a38_11 rfl ?_
        refine w_callS mi_a38_12 rfl rfl 3 ⟨rfl, rfl⟩ ⟨Nat.le_of_ble_eq_true rfl, Nat.le_of_ble_eq_true rfl⟩ (s_refusal (d := 45) hcell) ?_
        rintro r' h' ⟨rfl, rfl⟩
        rw [← wyf_at hN hi hk hkO]
        refine w_put mi_a38_15 rfl rfl (Nat.le_of_ble_eq_true rfl) rfl ?_
        refine w_aload mi_a38_18 rfl ?_
        refine w_ifnull mi_a38_20 ?_
        refine w_aload_n mi_a38_23 rfl ?_
        refine w_get mi_a38_24 rfl rfl rfl ?_
        refine w_if_eq mi_a38_27 32 (by decide) (fun z => absurd z h0) (fun _ => ?_)
        refine w_iconstv (v := 0) mi_a38_30 (by decide) ?_
        exact w_ireturn mi_a38_31 rfl ⟨rfl, pu, tc, dv, tk, dyn, A, B, px, an, by omega, ldv, ltk, ldyn, hszd, hdv, hd, rfl⟩
    · refine mi_WC.mono (d := 50) ?_ (by decide)
      subst ehm
      refine mi_WC.of (X := mi_m77) rfl (Nat.le_of_ble_eq_true rfl) ?_
      refine w_aload_n mi_a77_0 rfl ?_
      refine w_iload_n mi_a77_1 rfl ?_
      refine w_iload_n mi_a77_2 rfl ?_
      refine w_iload_n mi_a77_3 rfl ?_
      refine w_callV mi_a77_4 rfl rfl 3 ⟨rfl, rfl⟩ ⟨Nat.le_of_ble_eq_true rfl, Nat.le_of_ble_eq_true rfl⟩ rfl rfl rfl rfl (s_why (d := 46) hN hki rfl) ?_
      rintro r' h' ⟨rfl, rfl⟩
      refine w_istore mi_a77_7 (Nat.le_of_ble_eq_true rfl) ?_
      refine w_iload mi_a77_9 rfl ?_
      refine w_if_eq mi_a77_11 21 (by decide) (fun z => absurd z h0) (fun _ => ?_)
      refine w_aload_n mi_a77_14 rfl ?_
      refine w_iload mi_a77_15 rfl ?_
      refine w_callV mi_a77_17 rfl rfl 1 ⟨rfl, rfl⟩ ⟨Nat.le_of_ble_eq_true rfl, Nat.le_of_ble_eq_true rfl⟩ rfl rfl rfl rfl (s_refused (d := 48)) ?_
      rintro r' h' ⟨rfl, rfl⟩
      exact w_ireturn mi_a77_20 rfl ⟨rfl, fr, pl, rw, aw, zi, fB, fA, fX, pi, lrw, law, lzi, lfB, lfA, lfX, lpi, rfl⟩
