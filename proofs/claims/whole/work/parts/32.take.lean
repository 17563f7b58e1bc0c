/-! pass: one taking, the links of a giver -/
theorem nx_hit {xs : List Int32} {x : Int32} {l m : Nat} (hl : l < m) (h : xs[l]? = some x) : nx xs m x l = some l := by
  obtain ⟨j, hj⟩ := nx_of (Nat.le_refl l) hl h
  obtain ⟨h1, h2, h3, h4⟩ := nx_some hj
  by_cases e : l < j
  · exact absurd h (h4 l (Nat.le_refl l) e)
  · have : j = l := by omega
    subst this
    exact hj
theorem nx_miss {xs : List Int32} {x : Int32} {l : Nat} (h : xs[l]? ≠ some x) : ∀ m, nx xs m x l = nx xs m x (l + 1)
  | 0 => rfl
  | m + 1 => by
    unfold nx
    rw [nx_miss h m]
    cases nx xs m x (l + 1) with
    | some j => rfl
    | none =>
      simp only
      by_cases e : m = l
      · subst e
        rw [if_neg (fun z => h z.2), if_neg (fun z => h z.2)]
      · by_cases e2 : xs[m]? = some x
        · by_cases e3 : l ≤ m
          · rw [if_pos ⟨e3, e2⟩, if_pos ⟨by omega, e2⟩]
          · rw [if_neg (fun z => e3 z.1), if_neg (fun z => e3 (by omega))]
        · rw [if_neg (fun z => e2 z.2), if_neg (fun z => e2 z.2)]
theorem nx_end {xs : List Int32} {x : Int32} {m : Nat} : nx xs m x m = none := nx_none_of (fun t h1 h2 => by omega)
theorem nodup_le : ∀ (N : Nat) (R : List Nat), R.Nodup → (∀ j ∈ R, j < N) → R.length ≤ N
  | 0, [], _, _ => Nat.le_refl _
  | 0, a :: R, _, h => absurd (h a (List.mem_cons_self ..)) (Nat.not_lt_zero _)
  | N + 1, R, hn, h => by
    have h2 : ∀ j ∈ R.erase N, j < N := fun j hj => by
      have := h j (List.mem_of_mem_erase hj)
      have hne : j ≠ N := fun z => by subst z; exact (List.Nodup.not_mem_erase hn) hj
      omega
    have h3 := nodup_le N (R.erase N) (List.Nodup.erase N hn) h2
    by_cases e : N ∈ R
    · rw [List.length_erase_of_mem e] at h3
      omega
    · rw [List.erase_of_not_mem e] at h3
      omega
/-- the class: a device takes -/
theorem s_letTake {a k R : Nat} {x v c og ic t p an : Int32} {fl ll : Value} {n m pu stt : Int32} {q : List Int32 × Nat} {dv tk : List (Option Nat)} {dyn : mi_H} (hk : k < 11) (hR : R < 300) (ltk : tk.length = 300) (hq : q.1.length = 64) (hn : q.2 < 2 ^ 30) (hj : dyn[a]? = some (dvc k v c og ic t p an fl ll)) : mi_WC 48 53 [.ref 0, .ref (a + 6), .int x] (kh n m (nI R) pu stt q dv tk dyn) (fun r h' => r = none ∧ h' = kh n m (nI (R + 1)) pu stt (ac_kp (acR k (tka k) x v c).2.2.2 q) dv (tk.set R (some (a + 6))) (dyn.set a (dvc k (acR k (tka k) x v c).2.1 (acR k (tka k) x v c).2.2.1 og ic (t + 1) pu (acR k (tka k) x v c).1 fl ll))) := by
  obtain ⟨hok, haa⟩ := aok_tka k hk
  have hiR : (nI R).toNatClampNeg = R := nI_clamp (by omega)
  refine mi_WC.of (X := mi_m53) rfl (Nat.le_of_ble_eq_true rfl) ?_
  refine w_aload_n mi_a53_0 rfl ?_
  refine w_get mi_a53_1 rfl rfl rfl ?_
  refine w_sipushv (v := 300) mi_a53_4 (by decide) ?_
  refine w_icmp_lt mi_a53_7 11 (by decide) (fun _ => ?_) (fun z => absurd (nI_lt (a := R) (b := 300) hR (by decide)) z)
  refine w_aload_n mi_a53_11 rfl ?_
  refine w_get mi_a53_12 rfl rfl rfl ?_
  refine w_aload_n mi_a53_15 rfl ?_
  refine w_get mi_a53_16 rfl rfl rfl ?_
  refine w_aload_n mi_a53_19 rfl ?_
  refine w_aast mi_a53_20 rfl (nI_pos (by omega)) (by rw [hiR, ltk]; omega) (show (kh n m (nI R) pu stt q dv tk dyn)[a + 6]? = some (dvc k v c og ic t p an fl ll) from hj) ?_
  rw [hiR]
  refine w_aload_n mi_a53_21 rfl ?_
  refine w_dup mi_a53_22 rfl ?_
  refine w_get mi_a53_23 rfl rfl rfl ?_
  refine w_iconstv (v := 1) mi_a53_26 (by decide) ?_
  refine w_iaddv mi_a53_27 (nI_succ R).symm ?_
  refine w_put mi_a53_28 rfl rfl (Nat.le_of_ble_eq_true rfl) rfl ?_
  show mi_W 47 mi_m53 (31, _, _, kh n m (nI (R + 1)) pu stt q dv (tk.set R (some (a + 6))) dyn) _
  refine w_aload_n mi_a53_31 rfl ?_
  refine w_aload_n mi_a53_32 rfl ?_
  refine w_get mi_a53_33 rfl rfl rfl ?_
  refine w_put mi_a53_36 rfl hj (Nat.le_of_ble_eq_true rfl) rfl ?_
  have hj1 : (dyn.set a (dvc k v c og ic t pu an fl ll))[a]? = some (dvc k v c og ic t pu an fl ll) := mi_set_at hj
  show mi_W 47 mi_m53 (39, _, _, kh n m (nI (R + 1)) pu stt q dv (tk.set R (some (a + 6))) (dyn.set a (dvc k v c og ic t pu an fl ll))) _
  refine w_aload_n mi_a53_39 rfl ?_
  refine w_dup mi_a53_40 rfl ?_
  refine w_get mi_a53_41 rfl hj1 rfl ?_
  refine w_iconstv (v := 1) mi_a53_44 (by decide) ?_
  refine w_iadd mi_a53_45 ?_
  refine w_put mi_a53_46 rfl hj1 (Nat.le_of_ble_eq_true rfl) rfl ?_
  have hj2 : ((dyn.set a (dvc k v c og ic t pu an fl ll)).set a (dvc k v c og ic (t + 1) pu an fl ll))[a]? = some (dvc k v c og ic (t + 1) pu an fl ll) := mi_set_at hj1
  show mi_W 47 mi_m53 (49, _, _, kh n m (nI (R + 1)) pu stt q dv (tk.set R (some (a + 6))) ((dyn.set a (dvc k v c og ic t pu an fl ll)).set a (dvc k v c og ic (t + 1) pu an fl ll))) _
  refine w_aload_n mi_a53_49 rfl ?_
  refine w_aload_n mi_a53_50 rfl ?_
  refine w_get mi_a53_51 rfl rfl rfl ?_
  refine w_aload_n mi_a53_54 rfl ?_
  refine w_aload_n mi_a53_55 rfl ?_
  refine w_callV mi_a53_56 rfl rfl 0 ⟨rfl, rfl⟩ ⟨Nat.le_of_ble_eq_true rfl, Nat.le_of_ble_eq_true rfl⟩ rfl hj2 rfl rfl (s_actOfTaking (d := 44) hj2) ?_
  rintro r' h' ⟨rfl, rfl⟩
  refine w_iload_n mi_a53_59 rfl ?_
  refine w_iconstv (v := 0) mi_a53_60 (by decide) ?_
  refine w_callV mi_a53_61 rfl rfl 4 ⟨rfl, rfl⟩ ⟨Nat.le_of_ble_eq_true rfl, Nat.le_of_ble_eq_true rfl⟩ rfl rfl rfl rfl (c_act (D := 47) (by omega) hk haa hok hq (by omega) hj2) ?_
  rintro r' h' ⟨rfl, rfl⟩
  refine w_put mi_a53_64 rfl (mi_set_at hj2) (Nat.le_of_ble_eq_true rfl) rfl ?_
  refine w_vreturn mi_a53_67 rfl ⟨rfl, ?_⟩
  show kh n m (nI (R + 1)) pu stt _ dv _ (((((dyn.set a _).set a _).set a _).set a _)) = _
  simp only [List.set_set]
  rfl
/-- the model: a device takes -/
theorem s_takes {j k : Nat} {x v c t n m stt fr pl : Int32} {q : List Int32 × Nat} {kO vO cO tO fm to rw an zi fB fA fX pi : List Int32} (hk : k < 11) (hj : j < 2 ^ 31) (hkO : kO[j]? = some (nI k)) (hv : vO[j]? = some v) (hc : cO[j]? = some c) (ht : tO[j]? = some t) (hB : fB.length = 100) (hA : fA.length = 100) (hX : fX.length = 100) (hpi : pi.length = 300) (hq : q.1.length = 64) (hn : q.2 < 2 ^ 30) :
  mi_WC 49 81 [.ref 0, .int (nI j), .int x] (mh n m stt fr pl q kO vO cO tO fm to rw an zi fB fA fX pi) (fun r' h' => r' = some (.int (acR k (tka k) x v c).1) ∧ ∃ fB fA fX pi, fB.length = 100 ∧ fA.length = 100 ∧ fX.length = 100 ∧ pi.length = 300 ∧ h' = mh n m stt 0 0 (ac_kp (acR k (tka k) x v c).2.2.2 q) kO (vO.set j (acR k (tka k) x v c).2.1) (cO.set j (acR k (tka k) x v c).2.2.1) (tO.set j (t + 1)) fm to rw an zi fB fA fX pi) := by
  obtain ⟨hok, haa⟩ := aok_tka k hk
  have hij : (nI j).toNatClampNeg = j := nI_clamp hj
  refine mi_WC.of (X := mi_m81) rfl (Nat.le_of_ble_eq_true rfl) ?_
  refine w_aload_n mi_a81_0 rfl ?_
  refine w_get mi_a81_1 rfl rfl rfl ?_
  refine w_iload_n mi_a81_4 rfl ?_
  refine w_dup2 mi_a81_5 ⟨rfl, rfl⟩ ?_
  refine w_iald mi_a81_6 rfl (nI_pos hj) (by rw [hij]; exact ht) ?_
  refine w_iconstv (v := 1) mi_a81_7 (by decide) ?_
  refine w_iadd mi_a81_8 ?_
  refine w_iast mi_a81_9 rfl (nI_pos hj) (by rw [hij]; exact (List.getElem?_eq_some_iff.mp ht).1) ?_
  rw [hij]
  show mi_W 48 mi_m81 (10, _, _, mh n m stt fr pl q kO vO cO (tO.set j (t + 1)) fm to rw an zi fB fA fX pi) _
  have fin : ∀ y : Int32, y = nI (tka k) → mi_W 48 mi_m81 (40, [some (.ref 0), some (.int (nI j)), some (.int x)], [.int y, .int (nI j), .ref 0], mh n m stt fr pl q kO vO cO (tO.set j (t + 1)) fm to rw an zi fB fA fX pi) (fun r' h' => r' = some (.int (acR k (tka k) x v c).1) ∧ ∃ fB fA fX pi, fB.length = 100 ∧ fA.length = 100 ∧ fX.length = 100 ∧ pi.length = 300 ∧ h' = mh n m stt 0 0 (ac_kp (acR k (tka k) x v c).2.2.2 q) kO (vO.set j (acR k (tka k) x v c).2.1) (cO.set j (acR k (tka k) x v c).2.2.1) (tO.set j (t + 1)) fm to rw an zi fB fA fX pi) := by
    intro y hy
    subst hy
    refine w_iload_n mi_a81_40 rfl ?_
    refine w_callV mi_a81_41 rfl rfl 3 ⟨rfl, rfl⟩ ⟨Nat.le_of_ble_eq_true rfl, Nat.le_of_ble_eq_true rfl⟩ rfl rfl rfl rfl (m_act (D := 48) (by omega) hk haa hok hj hkO hv hc hB hA hX hpi hq hn) ?_
    rintro r' h' ⟨rfl, fB2, fA2, fX2, pi2, l1, l2, l3, l4, rfl⟩
    exact w_ireturn mi_a81_44 rfl ⟨rfl, fB2, fA2, fX2, pi2, l1, l2, l3, l4, rfl⟩
  refine w_aload_n mi_a81_10 rfl ?_
  refine w_iload_n mi_a81_11 rfl ?_
  refine w_aload_n mi_a81_12 rfl ?_
  refine w_iload_n mi_a81_13 rfl ?_
  refine w_iconstv (v := 3) mi_a81_14 (by decide) ?_
  refine w_callV mi_a81_15 rfl rfl 2 ⟨rfl, rfl⟩ ⟨Nat.le_of_ble_eq_true rfl, Nat.le_of_ble_eq_true rfl⟩ rfl rfl rfl rfl (s_mAble (d := 46) hj hk hkO (w := 3) (by decide)) ?_
  rintro r' h' ⟨rfl, rfl⟩
  refine w_if_eq mi_a81_18 25 (by decide) (fun z3 => ?_) (fun z3 => ?_)
  ·
    refine w_aload_n mi_a81_25 rfl ?_
    refine w_iload_n mi_a81_26 rfl ?_
    refine w_iconstv (v := 2) mi_a81_27 (by decide) ?_
    refine w_callV mi_a81_28 rfl rfl 2 ⟨rfl, rfl⟩ ⟨Nat.le_of_ble_eq_true rfl, Nat.le_of_ble_eq_true rfl⟩ rfl rfl rfl rfl (s_mAble (d := 46) hj hk hkO (w := 2) (by decide)) ?_
    rintro r' h' ⟨rfl, rfl⟩
    have e3 := (b01_eq0 _).mp z3
    refine w_if_eq mi_a81_31 38 (by decide) (fun z2 => ?_) (fun z2 => ?_)
    ·
      refine w_bipushv (v := 6) mi_a81_38 (by decide) ?_
      exact fin _ (by unfold tka; rw [e3, (b01_eq0 _).mp z2]; decide)
    ·
      refine w_iconstv (v := 1) mi_a81_34 (by decide) ?_
      refine w_goto mi_a81_35 40 (by decide) ?_
      exact fin _ (by unfold tka; rw [e3, (b01_ne0 _).mp z2]; decide)
  ·
    refine w_iconstv (v := 4) mi_a81_21 (by decide) ?_
    refine w_goto mi_a81_22 40 (by decide) ?_
    exact fin _ (by unfold tka; rw [(b01_ne0 _).mp z3]; rfl)
