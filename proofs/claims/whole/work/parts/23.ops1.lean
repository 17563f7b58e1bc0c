/-! WHAT A STATE IS, on either side; the methods that change nothing but the status -/
/-- devices, links, status, chain, kinds, values, counts, how often taken, links from and to -/
abbrev sT : Type := Nat × Nat × Int32 × (List Int32 × Nat) × List Int32 × List Int32 × List Int32 × List Int32 × List Int32 × List Int32
def sI : sT → Prop
  | (N, M, _, q, kO, vO, cO, tO, fm, to) => N ≤ 300 ∧ M ≤ 400 ∧ q.1.length = 64 ∧ q.2 < 2 ^ 20 ∧ kO.length = 300 ∧ vO.length = 300 ∧ cO.length = 300 ∧ tO.length = 300 ∧ fm.length = 400 ∧ to.length = 400 ∧ (∀ i, i < N → ∃ k, k < 11 ∧ kO[i]? = some (nI k)) ∧ (∀ l, l < M → ∃ f t, f < N ∧ t < N ∧ fm[l]? = some (nI f) ∧ to[l]? = some (nI t)) ∧ (∀ i, N ≤ i → i < 300 → cO[i]? = some 0 ∧ tO[i]? = some 0)
def mR : sT → mi_H → Prop
  | (N, M, stt, q, kO, vO, cO, tO, fm, to), h => ∃ (fr pl : Int32) (rw an zi fB fA fX pi : List Int32), rw.length = 300 ∧ an.length = 300 ∧ zi.length = 300 ∧ fB.length = 100 ∧ fA.length = 100 ∧ fX.length = 100 ∧ pi.length = 300 ∧ h = mh (nI N) (nI M) stt fr pl q kO vO cO tO fm to rw an zi fB fA fX pi
/-- how many of the first M are x; the first from l on; the last -/
def cnt (xs : List Int32) : Nat → Int32 → Nat
  | 0, _ => 0
  | m + 1, x => cnt xs m x + (if xs[m]? = some x then 1 else 0)
def nx (xs : List Int32) : Nat → Int32 → Nat → Option Nat
  | 0, _, _ => none
  | m + 1, x, l => match nx xs m x l with
    | some j => some j
    | none => if l ≤ m ∧ xs[m]? = some x then some m else none
def lst (xs : List Int32) : Nat → Int32 → Option Nat
  | 0, _ => none
  | m + 1, x => if xs[m]? = some x then some m else lst xs m x
def rfB (B : Nat → Nat) : Option Nat → Value
  | some l => .ref (B l + 6)
  | none => .null
def lkc (a : Nat) (nxt : Value) : mi_C := .inl (2, [.ref (a + 6), nxt])
/-- the Devices and the Links of the class: device i stands at A i, link l at B l -/
def dR (N M : Nat) (kO vO cO tO fm to : List Int32) (pu : Nat) (A B px : Nat → Nat) (an : Nat → Int32) (dyn : mi_H) : Prop :=
  (∀ i j, i < N → j < N → A i = A j → i = j) ∧ (∀ l k, l < M → k < M → B l = B k → l = k) ∧
  (∀ i, i < N → ∃ k v c t, k < 11 ∧ kO[i]? = some (nI k) ∧ vO[i]? = some v ∧ cO[i]? = some c ∧ tO[i]? = some t ∧ px i ≤ pu ∧ dyn[A i]? = some (dvc k v c (nI (cnt fm M (nI i))) (nI (cnt to M (nI i))) t (nI (px i)) (an i) (rfB B (nx fm M (nI i) 0)) (rfB B (lst fm M (nI i))))) ∧
  (∀ l, l < M → ∃ f t, f < N ∧ t < N ∧ fm[l]? = some (nI f) ∧ to[l]? = some (nI t) ∧ dyn[B l]? = some (lkc (A t) (rfB B (nx fm M (nI f) (l + 1)))))
def cR (Pm : Nat) : sT → mi_H → Prop
  | (N, M, stt, q, kO, vO, cO, tO, fm, to), h => ∃ (pu : Nat) (tc : Int32) (dv tk : List (Option Nat)) (dyn : mi_H) (A B px : Nat → Nat) (an : Nat → Int32), pu ≤ Pm ∧ dv.length = 300 ∧ tk.length = 300 ∧ dyn.length = N + M ∧ (∀ c ∈ dyn, mi_szc c ≤ 12) ∧ (∀ i, i < N → dv[i]? = some (some (A i + 6))) ∧ dR N M kO vO cO tO fm to pu A B px an dyn ∧ h = kh (nI N) (nI M) tc (nI pu) stt q dv tk dyn
theorem cR_up {Pm P2 : Nat} {S : sT} {h : mi_H} (hp : Pm ≤ P2) (q : cR Pm S h) : cR P2 S h := by
  obtain ⟨N, M, stt, q, kO, vO, cO, tO, fm, to⟩ := S
  obtain ⟨pu, tc, dv, tk, dyn, A, B, px, an, h1, h2⟩ := q
  exact ⟨pu, tc, dv, tk, dyn, A, B, px, an, Nat.le_trans h1 hp, h2⟩
/-- one call of a public method, on either side: the same answer, states that go together -/
def opk (kc km : Nat) (as : List Value) : Prop := ∀ (Pm : Nat) (S : sT) (hx hm : mi_H), Pm < 2 ^ 20 → sI S → cR Pm S hx → mR S hm → ∃ (r : Int32) (S' : sT), sI S' ∧ mi_WC 60 kc (.ref 0 :: as) hx (fun r' h' => r' = some (.int r) ∧ cR (Pm + 1) S' h') ∧ mi_WC 60 km (.ref 0 :: as) hm (fun r' h' => r' = some (.int r) ∧ mR S' h')
theorem dR_cell {N M : Nat} {kO vO cO tO fm to : List Int32} {pu : Nat} {A B px : Nat → Nat} {an : Nat → Int32} {dyn : mi_H} (hd : dR N M kO vO cO tO fm to pu A B px an dyn) {i : Nat} (hi : i < N) : ∃ k v c t, k < 11 ∧ kO[i]? = some (nI k) ∧ vO[i]? = some v ∧ cO[i]? = some c ∧ tO[i]? = some t ∧ px i ≤ pu ∧ dyn[A i]? = some (dvc k v c (nI (cnt fm M (nI i))) (nI (cnt to M (nI i))) t (nI (px i)) (an i) (rfB B (nx fm M (nI i) 0)) (rfB B (lst fm M (nI i)))) := hd.2.2.1 i hi
theorem op_status : opk 48 88 [] := by
  intro Pm S hx hm hPm hI hC hM
  obtain ⟨N, M, stt, q, kO, vO, cO, tO, fm, to⟩ := S
  obtain ⟨hN, hMm, hq, hq2, lk, lv, lc, lt, lf, lo, hki, hli, hz⟩ := id hI
  obtain ⟨pu, tc, dv, tk, dyn, A, B, px, an, hpu, ldv, ltk, ldyn, hszd, hdv, hd, ehx⟩ := id hC
  obtain ⟨fr, pl, rw, aw, zi, fB, fA, fX, pi, lrw, law, lzi, lfB, lfA, lfX, lpi, ehm⟩ := id hM
  refine ⟨stt, (N, M, stt, q, kO, vO, cO, tO, fm, to), hI, ?_, ?_⟩
  · refine mi_WC.mono (d := 1) ?_ (by decide)
    subst ehx
    refine mi_WC.of (X := mi_m48) rfl (Nat.le_of_ble_eq_true rfl) ?_
    refine w_aload_n mi_a48_0 rfl ?_
    refine w_get mi_a48_1 rfl rfl rfl ?_
    exact w_ireturn mi_a48_4 rfl ⟨rfl, cR_up (Nat.le_succ _) hC⟩
  · refine mi_WC.mono (d := 1) ?_ (by decide)
    subst ehm
    refine mi_WC.of (X := mi_m88) rfl (Nat.le_of_ble_eq_true rfl) ?_
    refine w_aload_n mi_a88_0 rfl ?_
    refine w_get mi_a88_1 rfl rfl rfl ?_
    exact w_ireturn mi_a88_4 rfl ⟨rfl, hM⟩
theorem op_ran : opk 45 85 [] := by
  intro Pm S hx hm hPm hI hC hM
  obtain ⟨N, M, stt, q, kO, vO, cO, tO, fm, to⟩ := S
  obtain ⟨hN, hMm, hq, hq2, lk, lv, lc, lt, lf, lo, hki, hli, hz⟩ := id hI
  obtain ⟨pu, tc, dv, tk, dyn, A, B, px, an, hpu, ldv, ltk, ldyn, hszd, hdv, hd, ehx⟩ := id hC
  obtain ⟨fr, pl, rw, aw, zi, fB, fA, fX, pi, lrw, law, lzi, lfB, lfA, lfX, lpi, ehm⟩ := id hM
  refine ⟨nI q.2, (N, M, stt, q, kO, vO, cO, tO, fm, to), hI, ?_, ?_⟩
  · refine mi_WC.mono (d := 1) ?_ (by decide)
    subst ehx
    refine mi_WC.of (X := mi_m45) rfl (Nat.le_of_ble_eq_true rfl) ?_
    refine w_aload_n mi_a45_0 rfl ?_
    refine w_get mi_a45_1 rfl rfl rfl ?_
    refine w_get mi_a45_4 rfl rfl rfl ?_
    exact w_ireturn mi_a45_7 rfl ⟨rfl, cR_up (Nat.le_succ _) hC⟩
  · refine mi_WC.mono (d := 1) ?_ (by decide)
    subst ehm
    refine mi_WC.of (X := mi_m85) rfl (Nat.le_of_ble_eq_true rfl) ?_
    refine w_aload_n mi_a85_0 rfl ?_
    refine w_get mi_a85_1 rfl rfl rfl ?_
    exact w_ireturn mi_a85_4 rfl ⟨rfl, hM⟩
theorem op_chain (i : Int32) : opk 44 84 [.int i] := by
  intro Pm S hx hm hPm hI hC hM
  obtain ⟨N, M, stt, q, kO, vO, cO, tO, fm, to⟩ := S
  obtain ⟨hN, hMm, hq, hq2, lk, lv, lc, lt, lf, lo, hki, hli, hz⟩ := id hI
  obtain ⟨pu, tc, dv, tk, dyn, A, B, px, an, hpu, ldv, ltk, ldyn, hszd, hdv, hd, ehx⟩ := id hC
  obtain ⟨fr, pl, rw, aw, zi, fB, fA, fX, pi, lrw, law, lzi, lfB, lfA, lfX, lpi, ehm⟩ := id hM
  refine ⟨chn q i, (N, M, stt, q, kO, vO, cO, tO, fm, to), hI, ?_, ?_⟩
  · refine mi_WC.mono (d := 2) ?_ (by decide)
    subst ehx
    refine mi_WC.of (X := mi_m44) rfl (Nat.le_of_ble_eq_true rfl) ?_
    refine w_aload_n mi_a44_0 rfl ?_
    refine w_get mi_a44_1 rfl rfl rfl ?_
    refine w_iload_n mi_a44_4 rfl ?_
    refine w_callV mi_a44_5 rfl rfl 1 ⟨rfl, rfl⟩ ⟨Nat.le_of_ble_eq_true rfl, Nat.le_of_ble_eq_true rfl⟩ rfl rfl rfl rfl (s_keptAt (d := 0) hq) ?_
    rintro r' h' ⟨rfl, rfl⟩
    exact w_ireturn mi_a44_8 rfl ⟨rfl, cR_up (Nat.le_succ _) hC⟩
  · refine mi_WC.mono (d := 1) ?_ (by decide)
    subst ehm
    refine mi_WC.of (X := mi_m84) rfl (Nat.le_of_ble_eq_true rfl) ?_
    have no : ∀ L : List (Option Value), (rgb i (nI q.2) && rgb i 64) = false → mi_W 0 mi_m84 (18, L, [], mh (nI N) (nI M) stt fr pl q kO vO cO tO fm to rw aw zi fB fA fX pi) (fun r' h' => r' = some (.int (chn q i)) ∧ mR (N, M, stt, q, kO, vO, cO, tO, fm, to) h') := by
      intro L hf
      refine w_iconstv (v := (-1)) mi_a84_18 (by decide) ?_
      refine w_goto mi_a84_19 28 (by decide) ?_
      exact w_ireturn mi_a84_28 rfl ⟨by unfold chn; rw [hf]; rfl, hM⟩
    refine w_iload_n mi_a84_0 rfl ?_
    refine w_if_lt mi_a84_1 18 (by decide) (fun c => no _ (by rw [rgb_f0 c]; rfl)) (fun c1 => ?_)
    refine w_iload_n mi_a84_4 rfl ?_
    refine w_bipushv (v := 64) mi_a84_5 (by decide) ?_
    refine w_icmp_ge mi_a84_7 18 (by decide) (fun c => no _ (by rw [rgb_f1 (n := 64) c, Bool.and_false])) (fun c7 => ?_)
    refine w_iload_n mi_a84_10 rfl ?_
    refine w_aload_n mi_a84_11 rfl ?_
    refine w_get mi_a84_12 rfl rfl rfl ?_
    refine w_icmp_lt mi_a84_15 22 (by decide) (fun c15 => ?_) (fun c => no _ (by rw [rgb_f1 (Int32.not_lt.mp c), Bool.false_and]))
    have h64 : rgb i 64 = true := rgb_t.mpr ⟨c1, Int32.not_le.mp c7⟩
    obtain ⟨j, hj, rfl⟩ := rgb_at (n := 64) (by decide) h64
    refine w_aload_n mi_a84_22 rfl ?_
    refine w_get mi_a84_23 rfl rfl rfl ?_
    refine w_iload_n mi_a84_26 rfl ?_
    refine w_iald mi_a84_27 rfl c1 (by rw [nI_clamp (by omega)]; exact li_at hq hj) ?_
    refine w_ireturn mi_a84_28 rfl ⟨?_, hM⟩
    unfold chn
    rw [rgb_t.mpr ⟨c1, c15⟩, h64, nI_clamp (by omega)]
    rfl
theorem nI_kind {N i k : Nat} {kO : List Int32} (hk : k < 11) (h : kO[i]? = some (nI k)) : (kO.getD i 0).toNatClampNeg = k := by
  rw [List.getD_eq_getElem?_getD, h]
  exact nI_clamp (by omega)
/-- able(d, way) -/
def ablf (N : Nat) (kO : List Int32) (x w : Int32) : Int32 := if rgb x (nI N) && rgb w 7 then b01 (abl (kO.getD x.toNatClampNeg 0).toNatClampNeg w) else -1
theorem op_able (x w : Int32) : opk 43 83 [.int x, .int w] := by
  intro Pm S hx hm hPm hI hC hM
  obtain ⟨N, M, stt, q, kO, vO, cO, tO, fm, to⟩ := S
  obtain ⟨hN, hMm, hq, hq2, lk, lv, lc, lt, lf, lo, hki, hli, hz⟩ := id hI
  obtain ⟨pu, tc, dv, tk, dyn, A, B, px, an, hpu, ldv, ltk, ldyn, hszd, hdv, hd, ehx⟩ := id hC
  obtain ⟨fr, pl, rw, aw, zi, fB, fA, fX, pi, lrw, law, lzi, lfB, lfA, lfX, lpi, ehm⟩ := id hM
  refine ⟨ablf N kO x w, (N, M, stt, q, kO, vO, cO, tO, fm, to), hI, ?_, ?_⟩
  · refine mi_WC.mono (d := 3) ?_ (by decide)
    subst ehx
    refine mi_WC.of (X := mi_m43) rfl (Nat.le_of_ble_eq_true rfl) ?_
    have no : ∀ L : List (Option Value), (rgb x (nI N) && rgb w 7) = false → mi_W 2 mi_m43 (17, L, [], kh (nI N) (nI M) tc (nI pu) stt q dv tk dyn) (fun r' h' => r' = some (.int (ablf N kO x w)) ∧ cR (Pm + 1) (N, M, stt, q, kO, vO, cO, tO, fm, to) h') := by
      intro L hf
      refine w_iconstv (v := (-1)) mi_a43_17 (by decide) ?_
      exact w_ireturn mi_a43_18 rfl ⟨by unfold ablf; rw [hf]; rfl, cR_up (Nat.le_succ _) hC⟩
    refine w_aload_n mi_a43_0 rfl ?_
    refine w_iload_n mi_a43_1 rfl ?_
    cases hr : rgb x (nI N) with
    | false =>
      refine w_callV mi_a43_2 rfl rfl 1 ⟨rfl, rfl⟩ ⟨Nat.le_of_ble_eq_true rfl, Nat.le_of_ble_eq_true rfl⟩ rfl rfl rfl rfl (s_findN (d := 1) hr) ?_
      rintro r' h' ⟨rfl, rfl⟩
      refine w_astore_nN mi_a43_5 (Nat.le_of_ble_eq_true rfl) ?_
      refine w_aload_nN mi_a43_6 rfl ?_
      refine w_ifnullN mi_a43_7 17 (by decide) ?_
      exact no _ (by rw [hr]; rfl)
    | true =>
      obtain ⟨i, hi, rfl⟩ := rgb_at (n := N) (by omega) hr
      obtain ⟨k, v, c, t, hk, hkO, hv, hc, ht, hp, hcell⟩ := dR_cell hd hi
      refine w_callV mi_a43_2 rfl rfl 1 ⟨rfl, rfl⟩ ⟨Nat.le_of_ble_eq_true rfl, Nat.le_of_ble_eq_true rfl⟩ rfl rfl rfl rfl ((s_find (d := 1) hN rfl hi (hdv i hi))) ?_
      rintro r' h' ⟨rfl, rfl⟩
      refine w_astore_n mi_a43_5 (Nat.le_of_ble_eq_true rfl) ?_
      refine w_aload_n mi_a43_6 rfl ?_
      refine w_ifnull mi_a43_7 ?_
      refine w_iload_n mi_a43_10 rfl ?_
      refine w_callS mi_a43_11 rfl rfl 1 ⟨rfl, rfl⟩ ⟨Nat.le_of_ble_eq_true rfl, Nat.le_of_ble_eq_true rfl⟩ (s_cWay (d := 1)) ?_
      rintro r' h' ⟨rfl, rfl⟩
      refine w_if_ne mi_a43_14 19 (by decide) (fun c14 => ?_) (fun c14 => no _ (by rw [(b01_eq0 _).mp c14, Bool.and_false]))
      refine w_aload_n mi_a43_19 rfl ?_
      refine w_iload_n mi_a43_20 rfl ?_
      refine w_callV mi_a43_21 rfl rfl 1 ⟨rfl, rfl⟩ ⟨Nat.le_of_ble_eq_true rfl, Nat.le_of_ble_eq_true rfl⟩ rfl hcell rfl rfl (s_bears (d := 0) hcell) ?_
      rintro r' h' ⟨rfl, rfl⟩
      have hw := (b01_ne0 _).mp c14
      have hf : ablf N kO (nI i) w = b01 (abl k w) := by unfold ablf; rw [hr, hw, nI_clamp (by omega), nI_kind (N := N) hk hkO]; rfl
      rw [hf]
      refine w_if_eq mi_a43_24 31 (by decide) (fun c24 => ?_) (fun c24 => ?_)
      · refine w_iconstv (v := 0) mi_a43_31 (by decide) ?_
        exact w_ireturn mi_a43_32 rfl ⟨by rw [c24], cR_up (Nat.le_succ _) hC⟩
      · refine w_iconstv (v := 1) mi_a43_27 (by decide) ?_
        refine w_goto mi_a43_28 32 (by decide) ?_
        exact w_ireturn mi_a43_32 rfl ⟨by rw [(b01_ne0 _).mp c24]; rfl, cR_up (Nat.le_succ _) hC⟩
  · refine mi_WC.mono (d := 3) ?_ (by decide)
    subst ehm
    refine mi_WC.of (X := mi_m83) rfl (Nat.le_of_ble_eq_true rfl) ?_
    have no : ∀ L : List (Option Value), (rgb x (nI N) && rgb w 7) = false → mi_W 2 mi_m83 (15, L, [], mh (nI N) (nI M) stt fr pl q kO vO cO tO fm to rw aw zi fB fA fX pi) (fun r' h' => r' = some (.int (ablf N kO x w)) ∧ mR (N, M, stt, q, kO, vO, cO, tO, fm, to) h') := by
      intro L hf
      refine w_iconstv (v := (-1)) mi_a83_15 (by decide) ?_
      refine w_goto mi_a83_16 33 (by decide) ?_
      exact w_ireturn mi_a83_33 rfl ⟨by unfold ablf; rw [hf]; rfl, hM⟩
    refine w_aload_n mi_a83_0 rfl ?_
    refine w_iload_n mi_a83_1 rfl ?_
    refine w_callV mi_a83_2 rfl rfl 1 ⟨rfl, rfl⟩ ⟨Nat.le_of_ble_eq_true rfl, Nat.le_of_ble_eq_true rfl⟩ rfl rfl rfl rfl (s_mDev (d := 1)) ?_
    rintro r' h' ⟨rfl, rfl⟩
    refine w_if_eq mi_a83_5 15 (by decide) (fun c => no _ (by rw [(b01_eq0 _).mp c]; rfl)) (fun c5 => ?_)
    refine w_iload_n mi_a83_8 rfl ?_
    refine w_callS mi_a83_9 rfl rfl 1 ⟨rfl, rfl⟩ ⟨Nat.le_of_ble_eq_true rfl, Nat.le_of_ble_eq_true rfl⟩ (s_mWay (d := 1)) ?_
    rintro r' h' ⟨rfl, rfl⟩
    refine w_if_ne mi_a83_12 19 (by decide) (fun c12 => ?_) (fun c => no _ (by rw [(b01_eq0 _).mp c, Bool.and_false]))
    have hr := (b01_ne0 _).mp c5
    have hw := (b01_ne0 _).mp c12
    obtain ⟨i, hi, rfl⟩ := rgb_at (n := N) (by omega) hr
    obtain ⟨k, hk, hkO⟩ := hki i hi
    have hf : ablf N kO (nI i) w = b01 (abl k w) := by unfold ablf; rw [hr, hw, nI_clamp (by omega), nI_kind (N := N) hk hkO]; rfl
    rw [hf]
    refine w_aload_n mi_a83_19 rfl ?_
    refine w_iload_n mi_a83_20 rfl ?_
    refine w_iload_n mi_a83_21 rfl ?_
    refine w_callV mi_a83_22 rfl rfl 2 ⟨rfl, rfl⟩ ⟨Nat.le_of_ble_eq_true rfl, Nat.le_of_ble_eq_true rfl⟩ rfl rfl rfl rfl (s_mAble (d := 0) (by omega) hk hkO hw) ?_
    rintro r' h' ⟨rfl, rfl⟩
    refine w_if_eq mi_a83_25 32 (by decide) (fun c25 => ?_) (fun c25 => ?_)
    · refine w_iconstv (v := 0) mi_a83_32 (by decide) ?_
      exact w_ireturn mi_a83_33 rfl ⟨by rw [c25], hM⟩
    · refine w_iconstv (v := 1) mi_a83_28 (by decide) ?_
      refine w_goto mi_a83_29 33 (by decide) ?_
      exact w_ireturn mi_a83_33 rfl ⟨by rw [(b01_ne0 _).mp c25]; rfl, hM⟩
