/-! pass: the state of a run of takings; the links of a giver -/
def pI (N M : Nat) (kO fm to : List Int32) (pu : Nat) (A B : Nat → Nat) (q : List Int32 × Nat) (vO cO tO : List Int32) (R : List Nat) (tk : List (Option Nat)) (px : Nat → Nat) (an : Nat → Int32) (dyn : mi_H) (rw aw zi : List Int32) : Prop :=
  q.1.length = 64 ∧ q.2 ≤ 200 * R.length ∧ vO.length = 300 ∧ cO.length = 300 ∧ tO.length = 300 ∧ tk.length = 300 ∧ rw.length = 300 ∧ aw.length = 300 ∧ zi.length = 300 ∧ R.Nodup ∧ (∀ j ∈ R, j < N) ∧
  (∀ p j : Nat, R[p]? = some j → tk[p]? = some (some (A j + 6)) ∧ rw[p]? = some (nI j) ∧ aw[p]? = some (an j)) ∧
  (∀ j, j < N → (px j = pu ↔ j ∈ R) ∧ zi[j]? = some (b01 (decide (j ∈ R)))) ∧
  dR N M kO vO cO tO fm to pu A B px an dyn ∧ (∀ c ∈ dyn, mi_szc c ≤ 12) ∧ dyn.length = N + M ∧ (∀ i, N ≤ i → i < 300 → cO[i]? = some 0 ∧ tO[i]? = some 0)
theorem pI_len {N M : Nat} {kO fm to : List Int32} {pu : Nat} {A B : Nat → Nat} {q : List Int32 × Nat} {vO cO tO : List Int32} {R : List Nat} {tk : List (Option Nat)} {px : Nat → Nat} {an : Nat → Int32} {dyn : mi_H} {rw aw zi : List Int32} (h : pI N M kO fm to pu A B q vO cO tO R tk px an dyn rw aw zi) : R.length ≤ N := nodup_le N R h.2.2.2.2.2.2.2.2.2.1 h.2.2.2.2.2.2.2.2.2.2.1
theorem p_take {N M : Nat} {kO fm to : List Int32} {pu : Nat} {A B : Nat → Nat} {q : List Int32 × Nat} {vO cO tO : List Int32} {R : List Nat} {tk : List (Option Nat)} {px : Nat → Nat} {an : Nat → Int32} {dyn : mi_H} {rw aw zi : List Int32} {dv : List (Option Nat)} (hN : N ≤ 300) (hT : pI N M kO fm to pu A B q vO cO tO R tk px an dyn rw aw zi) {j : Nat} (hj : j < N) (hn : j ∉ R) (x : Int32) :
  ∃ (q2 : List Int32 × Nat) (vO2 cO2 tO2 : List Int32) (px2 : Nat → Nat) (an2 : Nat → Int32) (dyn2 : mi_H) (y : Int32), pI N M kO fm to pu A B q2 vO2 cO2 tO2 (R ++ [j]) (tk.set R.length (some (A j + 6))) px2 an2 dyn2 (rw.set R.length (nI j)) (aw.set R.length y) (zi.set j 1) ∧
  mi_WC 48 53 [.ref 0, .ref (A j + 6), .int x] (kh (nI N) (nI M) (nI R.length) (nI pu) 0 q dv tk dyn) (fun r h' => r = none ∧ h' = kh (nI N) (nI M) (nI (R.length + 1)) (nI pu) 0 q2 dv (tk.set R.length (some (A j + 6))) dyn2) ∧
  ∀ (fr pl : Int32) (rw' aw' zi' fB fA fX pi : List Int32), fB.length = 100 → fA.length = 100 → fX.length = 100 → pi.length = 300 → mi_WC 49 81 [.ref 0, .int (nI j), .int x] (mh (nI N) (nI M) 0 fr pl q kO vO cO tO fm to rw' aw' zi' fB fA fX pi) (fun r' h' => r' = some (.int y) ∧ ∃ fr pl fB fA fX pi, fB.length = 100 ∧ fA.length = 100 ∧ fX.length = 100 ∧ pi.length = 300 ∧ h' = mh (nI N) (nI M) 0 fr pl q2 kO vO2 cO2 tO2 fm to rw' aw' zi' fB fA fX pi) := by
  have hlen := pI_len hT
  obtain ⟨hq, hq2, lv, lc, lt, ltk, lrw, law, lzi, hnd, hRN, hrow, hpx, hd, hszd, ldyn, hz⟩ := hT
  obtain ⟨k, v, c, t, hk, hkO, hv, hc, ht, hp, hcell⟩ := dR_cell hd hj
  obtain ⟨hok, haa⟩ := aok_tka k hk
  have hla := acR_len hk haa hok x v c q
  have hnd2 : (R ++ [j]).Nodup := by
    rw [List.nodup_append]
    refine ⟨hnd, List.Pairwise.cons (fun _ h => absurd h (List.not_mem_nil)) List.Pairwise.nil, fun a ha b hb => ?_⟩
    rw [List.mem_singleton.mp hb]
    exact fun z => hn (z ▸ ha)
  have hRN2 : ∀ i ∈ R ++ [j], i < N := fun i hi => by
    rcases List.mem_append.mp hi with z | z
    · exact hRN i z
    · rw [List.mem_singleton.mp z]; exact hj
  have hR3 : R.length < 300 := by
    have := nodup_le N _ hnd2 hRN2
    rw [List.length_append, List.length_singleton] at this
    omega
  refine ⟨ac_kp (acR k (tka k) x v c).2.2.2 q, vO.set j (acR k (tka k) x v c).2.1, cO.set j (acR k (tka k) x v c).2.2.1, tO.set j (t + 1), (fun i => if i = j then pu else px i), (fun i => if i = j then (acR k (tka k) x v c).1 else an i), _, (acR k (tka k) x v c).1, ⟨hla.1.trans hq, ?_, by rw [List.length_set]; exact lv, by rw [List.length_set]; exact lc, by rw [List.length_set]; exact lt, by rw [List.length_set]; exact ltk, by rw [List.length_set]; exact lrw, by rw [List.length_set]; exact law, by rw [List.length_set]; exact lzi, hnd2, hRN2, fun p i hi => ?_, fun i hi => ?_, dR_upd (v2 := (acR k (tka k) x v c).2.1) (c2 := (acR k (tka k) x v c).2.2.1) (t2 := t + 1) (an2 := (acR k (tka k) x v c).1) (p2 := pu) hd hj hk hkO hv hc ht (Nat.le_refl _) (Nat.le_refl _), szc_set hszd (szc_dvc _ _ _ _ _ _ _ _ _ _), by rw [List.length_set]; exact ldyn, fun i hi hi2 => ?_⟩, ?_, fun fr pl rw' aw' zi' fB fA fX pi lfB lfA lfX lpi => ?_⟩
  · rw [List.length_append, List.length_singleton]
    have := hla.2
    omega
  · by_cases e : p < R.length
    · rw [List.getElem?_append_left e] at hi
      obtain ⟨g1, g2, g3⟩ := hrow p i hi
      have hne : i ≠ j := fun z => hn (z ▸ List.mem_of_getElem? hi)
      dsimp only
      rw [List.getElem?_set_ne (by omega), List.getElem?_set_ne (by omega), List.getElem?_set_ne (by omega), if_neg hne]
      exact ⟨g1, g2, g3⟩
    · rw [List.getElem?_append_right (by omega)] at hi
      have hp0 : p = R.length := by
        have := (List.getElem?_eq_some_iff.mp hi).1
        rw [List.length_singleton] at this
        omega
      subst hp0
      rw [Nat.sub_self] at hi
      obtain rfl : j = i := Option.some.inj hi
      dsimp only
      rw [List.getElem?_set_self (by omega), List.getElem?_set_self (by omega), List.getElem?_set_self (by omega), if_pos rfl]
      exact ⟨rfl, rfl, rfl⟩
  · dsimp only
    by_cases e : i = j
    · subst e
      refine ⟨⟨fun _ => List.mem_append_right _ (List.mem_singleton.mpr rfl), fun _ => if_pos rfl⟩, ?_⟩
      rw [List.getElem?_set_self (by omega), decide_eq_true (List.mem_append_right _ (List.mem_singleton.mpr rfl))]
      rfl
    · obtain ⟨g1, g2⟩ := hpx i hi
      have hm : i ∈ R ++ [j] ↔ i ∈ R := by
        rw [List.mem_append, List.mem_singleton]
        exact ⟨fun z => z.resolve_right e, Or.inl⟩
      rw [if_neg e]
      refine ⟨g1.trans hm.symm, ?_⟩
      rw [List.getElem?_set_ne (fun z => e z.symm), g2]
      have : decide (i ∈ R) = decide (i ∈ R ++ [j]) := decide_eq_decide.mpr hm.symm
      rw [this]
  · obtain ⟨z1, z2⟩ := hz i hi hi2
    exact ⟨by rw [List.getElem?_set_ne (by omega)]; exact z1, by rw [List.getElem?_set_ne (by omega)]; exact z2⟩
  · exact s_letTake hk hR3 ltk hq (by omega) hcell
  · refine mi_WC.post (s_takes hk (by omega) hkO hv hc ht lfB lfA lfX lpi hq (by omega)) ?_
    rintro r' h' ⟨rfl, fB2, fA2, fX2, pi2, l1, l2, l3, l4, rfl⟩
    exact ⟨rfl, 0, 0, fB2, fA2, fX2, pi2, l1, l2, l3, l4, rfl⟩
