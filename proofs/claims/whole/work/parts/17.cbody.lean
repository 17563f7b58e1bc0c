/-! THE CLASS'S BODIES: each does what its tokens say -/
theorem i3_nat {x : Int32} (h : ¬ x < 0) : x = nI x.toNatClampNeg ∧ x.toNatClampNeg < 2 ^ 31 := ⟨(Int32.ofNat_toNatClampNeg x (Int32.not_lt.mp h)).symm, Int32.toNatClampNeg_lt x⟩
theorem nI_ltn {a b : Nat} (ha : a < 2 ^ 31) (hb : b < 2 ^ 31) : nI a < nI b ↔ a < b := by
  constructor
  · intro h
    rcases Nat.lt_or_ge a b with q | q
    · exact q
    · exact absurd h (nI_nlt q ha)
  · intro h
    exact nI_lt h hb
theorem mi_set_same {h : mi_H} {a : Nat} {c : mi_C} (e : h[a]? = some c) : h.set a c = h := by
  obtain ⟨h1, h2⟩ := List.getElem?_eq_some_iff.mp e
  rw [← h2]
  exact List.set_getElem_self h1
section ACX
variable {sub : Int32 → Int32 → Int32 → Int32 → Option (Int32 × Int32 × Int32)} {k b x v c o y z : Int32} {ts st : List Int32} {R : List Int32 × Int32 × Int32}
theorem ac_x_nil (h : ac_x sub k b x [] st v c = some R) : (st, v, c) = R := Option.some.inj h
theorem ac_x_call (ho : 1100 ≤ o) (h : ac_x sub k b x (o :: ts) (y :: st) v c = some R) : ∃ b2 z v2 c2, ac_sb k b o = some b2 ∧ sub b2 y v c = some (z, v2, c2) ∧ ac_x sub k b x ts (z :: st) v2 c2 = some R := by
  unfold ac_x at h
  rw [if_pos ho] at h
  cases hb : ac_sb k b o with
  | none => simp only [hb] at h; cases h
  | some b2 =>
    simp only [hb] at h
    cases hs : sub b2 y v c with
    | none => simp only [hs] at h; cases h
    | some q =>
      obtain ⟨z, v2, c2⟩ := q
      simp only [hs] at h
      exact ⟨b2, z, v2, c2, rfl, hs, h⟩
theorem ac_x_step {q : List Int32 × Int32 × Int32} (ho : ¬ 1100 ≤ o) (hs : ac_st o x st v c = some q) (h : ac_x sub k b x (o :: ts) st v c = some R) : ac_x sub k b x ts q.1 q.2.1 q.2.2 = some R := by
  unfold ac_x at h
  rw [if_neg ho] at h
  split at h
  · cases h
  · simp only [hs] at h
    exact h
theorem ac_x_n (n : Int32) (h : ac_x sub k b x (n :: ts) st v c = some R) (h1 : ¬ 1100 ≤ n) (h2 : n < 1000) : ac_x sub k b x ts (n :: st) v c = some R := ac_x_step (q := (n :: st, v, c)) h1 (by unfold ac_st; rw [if_pos h2]) h
theorem ac_x_X (h : ac_x sub k b x (1000 :: ts) st v c = some R) : ac_x sub k b x ts (x :: st) v c = some R := ac_x_step (q := (x :: st, v, c)) (by decide) rfl h
theorem ac_x_V (h : ac_x sub k b x (1001 :: ts) st v c = some R) : ac_x sub k b x ts (v :: st) v c = some R := ac_x_step (q := (v :: st, v, c)) (by decide) rfl h
theorem ac_x_C (h : ac_x sub k b x (1002 :: ts) st v c = some R) : ac_x sub k b x ts (c :: st) v c = some R := ac_x_step (q := (c :: st, v, c)) (by decide) rfl h
theorem ac_x_add (h : ac_x sub k b x (1003 :: ts) (y :: z :: st) v c = some R) : ac_x sub k b x ts ((z + y) :: st) v c = some R := ac_x_step (q := ((z + y) :: st, v, c)) (by decide) rfl h
theorem ac_x_sub (h : ac_x sub k b x (1004 :: ts) (y :: z :: st) v c = some R) : ac_x sub k b x ts ((z - y) :: st) v c = some R := ac_x_step (q := ((z - y) :: st, v, c)) (by decide) rfl h
theorem ac_x_mul (h : ac_x sub k b x (1005 :: ts) (y :: z :: st) v c = some R) : ac_x sub k b x ts ((z * y) :: st) v c = some R := ac_x_step (q := ((z * y) :: st, v, c)) (by decide) rfl h
theorem ac_x_xor (h : ac_x sub k b x (1006 :: ts) (y :: z :: st) v c = some R) : ac_x sub k b x ts ((z ^^^ y) :: st) v c = some R := ac_x_step (q := ((z ^^^ y) :: st, v, c)) (by decide) rfl h
theorem ac_x_and (h : ac_x sub k b x (1007 :: ts) (y :: z :: st) v c = some R) : ac_x sub k b x ts ((z &&& y) :: st) v c = some R := ac_x_step (q := ((z &&& y) :: st, v, c)) (by decide) rfl h
theorem ac_x_tv (h : ac_x sub k b x (1008 :: ts) (y :: st) v c = some R) : ac_x sub k b x ts st y c = some R := ac_x_step (q := (st, y, c)) (by decide) rfl h
theorem ac_x_tc (h : ac_x sub k b x (1009 :: ts) (y :: st) v c = some R) : ac_x sub k b x ts st v y = some R := ac_x_step (q := (st, v, y)) (by decide) rfl h
variable {sb : Int32 → List Int32} {b2 : Int32}
theorem ac_trs_s (ho : ¬ 1100 ≤ o) : ac_trs sb k b (o :: ts) = ac_trs sb k b ts := by
  rw [ac_trs, if_neg ho]
theorem ac_trs_c (ho : 1100 ≤ o) (hb : ac_sb k b o = some b2) : ac_trs sb k b (o :: ts) = sb b2 ++ ac_trs sb k b ts := by
  rw [ac_trs, if_pos ho, hb]
theorem ac_ev_tk {f : Nat} {r v2 c2 : Int32} (ht : ac_tk b = some ts) (h : ac_ev (f + 1) k b x v c = some (r, v2, c2)) : ac_x (ac_ev f k) k b x ts [] v c = some ([r], v2, c2) := by
  unfold ac_ev at h
  simp only [ht] at h
  split at h
  · rename_i e; cases h; exact e
  · cases h
end ACX
/-- the two tables of selection agree -/
def ac_agree : Bool := (List.range 11).all fun k => (List.range 12).all fun a => match ac_sb (nI k) 0 (1100 + nI a) with
  | some s => decide (s = -1) || decide (ac_at mi_sel (nI k * 12 + nI a) = some s)
  | none => false
set_option maxRecDepth 100000 in
theorem ac_agrees : ac_agree = true := by decide +kernel
theorem ac_sb_do {k b : Int32} {a : Nat} (ha : a < 12) : ac_sb k b (1100 + nI a) = ac_sb k 0 (1100 + nI a) := by
  have h : a = 0 ∨ a = 1 ∨ a = 2 ∨ a = 3 ∨ a = 4 ∨ a = 5 ∨ a = 6 ∨ a = 7 ∨ a = 8 ∨ a = 9 ∨ a = 10 ∨ a = 11 := by omega
  rcases h with rfl | rfl | rfl | rfl | rfl | rfl | rfl | rfl | rfl | rfl | rfl | rfl <;> rfl
theorem ac_ev_none {f : Nat} {k x v c : Int32} : ac_ev f k (-1) x v c = none := by
  cases f with
  | zero => rfl
  | succ f =>
    unfold ac_ev
    rw [show ac_tk (-1) = none from by decide +kernel]
theorem sel_do {f k a : Nat} {b b1 o x v c : Int32} {q : Int32 × Int32 × Int32} (ha : a < 12) (ho : 1100 + nI a = o) (hk : k < 11) (hb : ac_sb (nI k) b o = some b1) (he : ac_ev f (nI k) b1 x v c = some q) : ac_at mi_sel (nI k * 12 + nI a) = some b1 := by
  subst ho
  rw [ac_sb_do ha] at hb
  have h := List.all_eq_true.mp (List.all_eq_true.mp ac_agrees k (List.mem_range.mpr hk)) a (List.mem_range.mpr ha)
  rw [hb] at h
  simp only [Bool.or_eq_true, decide_eq_true_eq] at h
  rcases h with h | h
  · rw [h, ac_ev_none] at he; cases he
  · exact h
def rn_ok (f : Nat) : Prop := ∀ (D : Nat) (n m tc pu stt : Int32) (q : List Int32 × Nat) (dv tk : List (Option Nat)) (dyn : mi_H) (j dp k : Nat) (b x v c r v2 c2 : Int32) (w1 w2 : Value) (rs : List Value), 3 * f + 3 ≤ D → k < 11 → ac_ev f (nI k) b x v c = some (r, v2, c2) → dp + f ≤ 41 → q.1.length = 64 → q.2 + (ac_tr f (nI k) b).length < 2 ^ 31 → dyn[j]? = some (dc (nI k) w1 w2 v c rs) →
  mi_WC D 7 [.ref 1, .ref (j + 6), .int b, .int x, .int (nI dp)] (kh n m tc pu stt q dv tk dyn) (fun r' h' => r' = some (.int r) ∧ h' = kh n m tc pu stt (ac_kp (ac_tr f (nI k) b) q) dv tk (dyn.set j (dc (nI k) w1 w2 v2 c2 rs)))
theorem nI_small {k : Nat} (hk : k < 2 ^ 31) {b : Nat} (hb : b < 2 ^ 31) (h : k < b) : ¬ nI k < 0 ∧ nI k < nI b := ⟨nI_pos hk, nI_lt h hb⟩
theorem an_ok {f : Nat} (H : rn_ok f) {D : Nat} {n m tc pu stt : Int32} {q : List Int32 × Nat} {dv tk : List (Option Nat)} {dyn : mi_H} {j dp k : Nat} {b x v c r v2 c2 : Int32} {w1 w2 : Value} {rs : List Value} {a : Int32} (hD : 3 * f + 4 ≤ D) (hk : k < 11) (he : ac_ev f (nI k) b x v c = some (r, v2, c2)) (hdp : dp + f ≤ 41) (hq : q.1.length = 64) (hn : q.2 + (ac_tr f (nI k) b).length < 2 ^ 31) (hj : dyn[j]? = some (dc (nI k) w1 w2 v c rs)) (ha : ¬ a < 0) (ha2 : a < 12) (hs : ac_at mi_sel (nI k * 12 + a) = some b) :
  mi_WC D 4 [.ref 1, .ref (j + 6), .int a, .int x, .int (nI dp)] (kh n m tc pu stt q dv tk dyn) (fun r' h' => r' = some (.int r) ∧ h' = kh n m tc pu stt (ac_kp (ac_tr f (nI k) b) q) dv tk (dyn.set j (dc (nI k) w1 w2 v2 c2 rs))) := by
  obtain ⟨D, rfl⟩ : ∃ D', D = D' + 1 := ⟨D - 1, by omega⟩
  refine mi_WC.of (X := mi_m4) rfl (Nat.le_of_ble_eq_true rfl) ?_
  refine w_aload_n mi_a4_0 rfl ?_
  refine w_aload_n mi_a4_1 rfl ?_
  refine w_aload_n mi_a4_2 rfl ?_
  refine w_aload_n mi_a4_3 rfl ?_
  refine w_get mi_a4_4 rfl hj rfl ?_
  refine w_iload_n mi_a4_7 rfl ?_
  refine w_callV mi_a4_8 rfl rfl 2 ⟨rfl, rfl⟩ ⟨Nat.le_of_ble_eq_true rfl, Nat.le_of_ble_eq_true rfl⟩ rfl rfl rfl rfl (mi_WC.mono (s_selected (d := 0) (nI_pos (by omega)) (nI_lt (b := 18) (by omega) (by decide)) ha ha2 hs) (by omega)) ?_
  rintro r' h' ⟨rfl, rfl⟩
  refine w_iload_n mi_a4_11 rfl ?_
  refine w_iload mi_a4_12 rfl ?_
  refine w_callV mi_a4_14 rfl rfl 4 ⟨rfl, rfl⟩ ⟨Nat.le_of_ble_eq_true rfl, Nat.le_of_ble_eq_true rfl⟩ rfl rfl rfl rfl (H D n m tc pu stt q dv tk dyn j dp k b x v c r v2 c2 w1 w2 rs (by omega) hk he hdp hq hn hj) ?_
  rintro r' h' ⟨rfl, rfl⟩
  exact w_ireturn mi_a4_17 rfl ⟨rfl, rfl⟩
theorem by_ok {f : Nat} (H : rn_ok f) {D : Nat} {n m tc pu stt : Int32} {q : List Int32 × Nat} {dv tk : List (Option Nat)} {dyn : mi_H} {j dp k : Nat} {b x v c r v2 c2 : Int32} {w1 w2 : Value} {rs : List Value} {t a : Int32} (hD : 3 * f + 4 ≤ D) (hk : k < 11) (he : ac_ev f (nI k) b x v c = some (r, v2, c2)) (hdp : dp + f ≤ 41) (hq : q.1.length = 64) (hn : q.2 + (ac_tr f (nI k) b).length < 2 ^ 31) (hj : dyn[j]? = some (dc (nI k) w1 w2 v c rs)) (ht : ¬ t < 0) (ht2 : t < 18) (ha : ¬ a < 0) (ha2 : a < 12) (hs : ac_at mi_sel (t * 12 + a) = some b) :
  mi_WC D 6 [.ref 1, .int t, .ref (j + 6), .int a, .int x, .int (nI dp)] (kh n m tc pu stt q dv tk dyn) (fun r' h' => r' = some (.int r) ∧ h' = kh n m tc pu stt (ac_kp (ac_tr f (nI k) b) q) dv tk (dyn.set j (dc (nI k) w1 w2 v2 c2 rs))) := by
  obtain ⟨D, rfl⟩ : ∃ D', D = D' + 1 := ⟨D - 1, by omega⟩
  refine mi_WC.of (X := mi_m6) rfl (Nat.le_of_ble_eq_true rfl) ?_
  refine w_aload_n mi_a6_0 rfl ?_
  refine w_aload_n mi_a6_1 rfl ?_
  refine w_aload_n mi_a6_2 rfl ?_
  refine w_iload_n mi_a6_3 rfl ?_
  refine w_iload_n mi_a6_4 rfl ?_
  refine w_callV mi_a6_5 rfl rfl 2 ⟨rfl, rfl⟩ ⟨Nat.le_of_ble_eq_true rfl, Nat.le_of_ble_eq_true rfl⟩ rfl rfl rfl rfl (mi_WC.mono (s_selected (d := 0) ht ht2 ha ha2 hs) (by omega)) ?_
  rintro r' h' ⟨rfl, rfl⟩
  refine w_iload mi_a6_8 rfl ?_
  refine w_iload mi_a6_10 rfl ?_
  refine w_callV mi_a6_12 rfl rfl 4 ⟨rfl, rfl⟩ ⟨Nat.le_of_ble_eq_true rfl, Nat.le_of_ble_eq_true rfl⟩ rfl rfl rfl rfl (H D n m tc pu stt q dv tk dyn j dp k b x v c r v2 c2 w1 w2 rs (by omega) hk he hdp hq hn hj) ?_
  rintro r' h' ⟨rfl, rfl⟩
  exact w_ireturn mi_a6_15 rfl ⟨rfl, rfl⟩
theorem ab_ok {f : Nat} (H : rn_ok f) {D : Nat} {n m tc pu stt : Int32} {q : List Int32 × Nat} {dv tk : List (Option Nat)} {dyn : mi_H} {j dp k : Nat} {b x v c r v2 c2 : Int32} {w1 w2 : Value} {rs : List Value} {t p a : Int32} (hD : 3 * f + 4 ≤ D) (hk : k < 11) (he : ac_ev f (nI k) b x v c = some (r, v2, c2)) (hdp : dp + f ≤ 41) (hq : q.1.length = 64) (hn : q.2 + (ac_tr f (nI k) b).length < 2 ^ 31) (hj : dyn[j]? = some (dc (nI k) w1 w2 v c rs)) (ht : ¬ t < 0) (ht2 : t < 18) (hp : pr_tab[t.toNatClampNeg]? = some p) (hp1 : ¬ p < 0) (hp2 : p < 18) (ha : ¬ a < 0) (ha2 : a < 12) (hs : ac_at mi_sel (p * 12 + a) = some b) :
  mi_WC D 5 [.ref 1, .int t, .ref (j + 6), .int a, .int x, .int (nI dp)] (kh n m tc pu stt q dv tk dyn) (fun r' h' => r' = some (.int r) ∧ h' = kh n m tc pu stt (ac_kp (ac_tr f (nI k) b) q) dv tk (dyn.set j (dc (nI k) w1 w2 v2 c2 rs))) := by
  obtain ⟨D, rfl⟩ : ∃ D', D = D' + 1 := ⟨D - 1, by omega⟩
  refine mi_WC.of (X := mi_m5) rfl (Nat.le_of_ble_eq_true rfl) ?_
  refine w_aload_n mi_a5_0 rfl ?_
  refine w_aload_n mi_a5_1 rfl ?_
  refine w_aload_n mi_a5_2 rfl ?_
  refine w_iload_n mi_a5_3 rfl ?_
  refine w_callS mi_a5_4 rfl rfl 1 ⟨rfl, rfl⟩ ⟨Nat.le_of_ble_eq_true rfl, Nat.le_of_ble_eq_true rfl⟩ (mi_WC.mono (s_parentOf (d := 0) ht ht2 hp) (by omega)) ?_
  rintro r' h' ⟨rfl, rfl⟩
  refine w_iload_n mi_a5_7 rfl ?_
  refine w_callV mi_a5_8 rfl rfl 2 ⟨rfl, rfl⟩ ⟨Nat.le_of_ble_eq_true rfl, Nat.le_of_ble_eq_true rfl⟩ rfl rfl rfl rfl (mi_WC.mono (s_selected (d := 0) hp1 hp2 ha ha2 hs) (by omega)) ?_
  rintro r' h' ⟨rfl, rfl⟩
  refine w_iload mi_a5_11 rfl ?_
  refine w_iload mi_a5_13 rfl ?_
  refine w_callV mi_a5_15 rfl rfl 4 ⟨rfl, rfl⟩ ⟨Nat.le_of_ble_eq_true rfl, Nat.le_of_ble_eq_true rfl⟩ rfl rfl rfl rfl (H D n m tc pu stt q dv tk dyn j dp k b x v c r v2 c2 w1 w2 rs (by omega) hk he hdp hq hn hj) ?_
  rintro r' h' ⟨rfl, rfl⟩
  exact w_ireturn mi_a5_18 rfl ⟨rfl, rfl⟩
theorem bd_10 {f : Nat} (H : rn_ok f) {D : Nat} {n m tc pu stt : Int32} {q : List Int32 × Nat} {dv tk : List (Option Nat)} {dyn : mi_H} {j dp k : Nat} {x v c r v2 c2 : Int32} {w1 w2 : Value} {rs : List Value} (hD : 3 * f + 5 ≤ D) (hk : k < 11) (he : ac_ev (f + 1) (nI k) 10 x v c = some (r, v2, c2)) (hdp : dp + f ≤ 41) (hq : q.1.length = 64) (hn : q.2 + (ac_trs (ac_tr f (nI k)) (nI k) 10 [1000, 1100, 1, 1003]).length < 2 ^ 31) (hj : dyn[j]? = some (dc (nI k) w1 w2 v c rs)) : mi_WC D 9 [.ref 1, .ref (j + 6), .int 10, .int x, .int (nI dp)] (kh n m tc pu stt q dv tk dyn) (fun r' h' => r' = some (.int r) ∧ h' = kh n m tc pu stt (ac_kp (ac_trs (ac_tr f (nI k)) (nI k) 10 [1000, 1100, 1, 1003]) q) dv tk (dyn.set j (dc (nI k) w1 w2 v2 c2 rs))) := by
  obtain ⟨D, rfl⟩ : ∃ D', D = D' + 1 := ⟨D - 1, by omega⟩
  have h := ac_ev_tk (ts := [1000, 1100, 1, 1003]) (by decide +kernel) he
  replace h := ac_x_X h
  obtain ⟨b1, z1, v1_, c1_, hb1, he1, h⟩ := ac_x_call (by decide) h
  replace h := ac_x_n 1 h (by decide) (by decide)
  replace h := ac_x_add h
  have hr := ac_x_nil h
  simp only [Prod.mk.injEq, List.cons.injEq, and_true] at hr
  obtain ⟨e1, e2, e3⟩ := hr
  subst e1; subst e2; subst e3
  rw [ac_trs_s (by decide), ac_trs_c (by decide) hb1, ac_trs_s (by decide), ac_trs_s (by decide)] at hn ⊢
  simp only [ac_trs, List.append_nil, List.length_append] at hn ⊢
  refine mi_WC.of (X := mi_m9) rfl (Nat.le_of_ble_eq_true rfl) ?_
  refine w_iload_n mi_a9_0 rfl ?_
  refine w_lsw (off := 91) mi_a9_1 (by decide) (by decide) 92 (by decide) ?_
  refine w_aload_n mi_a9_92 rfl ?_
  refine w_aload_n mi_a9_93 rfl ?_
  refine w_iconstv (v := 0) mi_a9_94 (by decide) ?_
  refine w_iload_n mi_a9_95 rfl ?_
  refine w_iload mi_a9_96 rfl ?_
  refine w_callV mi_a9_98 rfl rfl 4 ⟨rfl, rfl⟩ ⟨Nat.le_of_ble_eq_true rfl, Nat.le_of_ble_eq_true rfl⟩ rfl rfl rfl rfl (an_ok H (by omega) hk he1 (by omega) hq (by omega) hj (by decide) (by decide) (sel_do (a := 0) (by decide) (by decide) hk hb1 he1)) ?_
  rintro r' h' ⟨rfl, rfl⟩
  have hd1 := mi_set_at (c := dc (nI k) w1 w2 v1_ c1_ rs) hj
  refine w_iconstv (v := 1) mi_a9_101 (by decide) ?_
  refine w_iadd mi_a9_102 ?_
  exact w_ireturn mi_a9_103 rfl ⟨rfl, by simp only [ac_kp_app, List.set_set]⟩
theorem bd_11 {f : Nat} (H : rn_ok f) {D : Nat} {n m tc pu stt : Int32} {q : List Int32 × Nat} {dv tk : List (Option Nat)} {dyn : mi_H} {j dp k : Nat} {x v c r v2 c2 : Int32} {w1 w2 : Value} {rs : List Value} (hD : 3 * f + 5 ≤ D) (hk : k < 11) (he : ac_ev (f + 1) (nI k) 11 x v c = some (r, v2, c2)) (hdp : dp + f ≤ 41) (hq : q.1.length = 64) (hn : q.2 + (ac_trs (ac_tr f (nI k)) (nI k) 11 [1000, 1101, 3, 1005, 1000, 1, 1003, 1100, 1004]).length < 2 ^ 31) (hj : dyn[j]? = some (dc (nI k) w1 w2 v c rs)) : mi_WC D 9 [.ref 1, .ref (j + 6), .int 11, .int x, .int (nI dp)] (kh n m tc pu stt q dv tk dyn) (fun r' h' => r' = some (.int r) ∧ h' = kh n m tc pu stt (ac_kp (ac_trs (ac_tr f (nI k)) (nI k) 11 [1000, 1101, 3, 1005, 1000, 1, 1003, 1100, 1004]) q) dv tk (dyn.set j (dc (nI k) w1 w2 v2 c2 rs))) := by
  obtain ⟨D, rfl⟩ : ∃ D', D = D' + 1 := ⟨D - 1, by omega⟩
  have h := ac_ev_tk (ts := [1000, 1101, 3, 1005, 1000, 1, 1003, 1100, 1004]) (by decide +kernel) he
  replace h := ac_x_X h
  obtain ⟨b1, z1, v1_, c1_, hb1, he1, h⟩ := ac_x_call (by decide) h
  replace h := ac_x_n 3 h (by decide) (by decide)
  replace h := ac_x_mul h
  replace h := ac_x_X h
  replace h := ac_x_n 1 h (by decide) (by decide)
  replace h := ac_x_add h
  obtain ⟨b2, z2, v2_, c2_, hb2, he2, h⟩ := ac_x_call (by decide) h
  replace h := ac_x_sub h
  have hr := ac_x_nil h
  simp only [Prod.mk.injEq, List.cons.injEq, and_true] at hr
  obtain ⟨e1, e2, e3⟩ := hr
  subst e1; subst e2; subst e3
  rw [ac_trs_s (by decide), ac_trs_c (by decide) hb1, ac_trs_s (by decide), ac_trs_s (by decide), ac_trs_s (by decide), ac_trs_s (by decide), ac_trs_s (by decide), ac_trs_c (by decide) hb2, ac_trs_s (by decide)] at hn ⊢
  simp only [ac_trs, List.append_nil, List.length_append] at hn ⊢
  refine mi_WC.of (X := mi_m9) rfl (Nat.le_of_ble_eq_true rfl) ?_
  refine w_iload_n mi_a9_0 rfl ?_
  refine w_lsw (off := 103) mi_a9_1 (by decide) (by decide) 104 (by decide) ?_
  refine w_aload_n mi_a9_104 rfl ?_
  refine w_aload_n mi_a9_105 rfl ?_
  refine w_iconstv (v := 1) mi_a9_106 (by decide) ?_
  refine w_iload_n mi_a9_107 rfl ?_
  refine w_iload mi_a9_108 rfl ?_
  refine w_callV mi_a9_110 rfl rfl 4 ⟨rfl, rfl⟩ ⟨Nat.le_of_ble_eq_true rfl, Nat.le_of_ble_eq_true rfl⟩ rfl rfl rfl rfl (an_ok H (by omega) hk he1 (by omega) hq (by omega) hj (by decide) (by decide) (sel_do (a := 1) (by decide) (by decide) hk hb1 he1)) ?_
  rintro r' h' ⟨rfl, rfl⟩
  have hd1 := mi_set_at (c := dc (nI k) w1 w2 v1_ c1_ rs) hj
  refine w_iconstv (v := 3) mi_a9_113 (by decide) ?_
  refine w_imul mi_a9_114 ?_
  refine w_aload_n mi_a9_115 rfl ?_
  refine w_aload_n mi_a9_116 rfl ?_
  refine w_iconstv (v := 0) mi_a9_117 (by decide) ?_
  refine w_iload_n mi_a9_118 rfl ?_
  refine w_iconstv (v := 1) mi_a9_119 (by decide) ?_
  refine w_iadd mi_a9_120 ?_
  refine w_iload mi_a9_121 rfl ?_
  refine w_callV mi_a9_123 rfl rfl 4 ⟨rfl, rfl⟩ ⟨Nat.le_of_ble_eq_true rfl, Nat.le_of_ble_eq_true rfl⟩ rfl rfl rfl rfl (an_ok H (by omega) hk he2 (by omega) (by simp only [ac_kp_len]; exact hq) (by simp only [ac_kp_ran]; omega) hd1 (by decide) (by decide) (sel_do (a := 0) (by decide) (by decide) hk hb2 he2)) ?_
  rintro r' h' ⟨rfl, rfl⟩
  have hd2 := mi_set_at (c := dc (nI k) w1 w2 v2_ c2_ rs) hd1
  refine w_isub mi_a9_126 ?_
  exact w_ireturn mi_a9_127 rfl ⟨rfl, by simp only [ac_kp_app, List.set_set]⟩
theorem bd_20 {f : Nat} (H : rn_ok f) {D : Nat} {n m tc pu stt : Int32} {q : List Int32 × Nat} {dv tk : List (Option Nat)} {dyn : mi_H} {j dp k : Nat} {x v c r v2 c2 : Int32} {w1 w2 : Value} {rs : List Value} (hD : 3 * f + 5 ≤ D) (hk : k < 11) (he : ac_ev (f + 1) (nI k) 20 x v c = some (r, v2, c2)) (hdp : dp + f ≤ 41) (hq : q.1.length = 64) (hn : q.2 + (ac_trs (ac_tr f (nI k)) (nI k) 20 [1000, 1103, 1000, 1, 1003, 1103, 1003]).length < 2 ^ 31) (hj : dyn[j]? = some (dc (nI k) w1 w2 v c rs)) : mi_WC D 9 [.ref 1, .ref (j + 6), .int 20, .int x, .int (nI dp)] (kh n m tc pu stt q dv tk dyn) (fun r' h' => r' = some (.int r) ∧ h' = kh n m tc pu stt (ac_kp (ac_trs (ac_tr f (nI k)) (nI k) 20 [1000, 1103, 1000, 1, 1003, 1103, 1003]) q) dv tk (dyn.set j (dc (nI k) w1 w2 v2 c2 rs))) := by
  obtain ⟨D, rfl⟩ : ∃ D', D = D' + 1 := ⟨D - 1, by omega⟩
  have h := ac_ev_tk (ts := [1000, 1103, 1000, 1, 1003, 1103, 1003]) (by decide +kernel) he
  replace h := ac_x_X h
  obtain ⟨b1, z1, v1_, c1_, hb1, he1, h⟩ := ac_x_call (by decide) h
  replace h := ac_x_X h
  replace h := ac_x_n 1 h (by decide) (by decide)
  replace h := ac_x_add h
  obtain ⟨b2, z2, v2_, c2_, hb2, he2, h⟩ := ac_x_call (by decide) h
  replace h := ac_x_add h
  have hr := ac_x_nil h
  simp only [Prod.mk.injEq, List.cons.injEq, and_true] at hr
  obtain ⟨e1, e2, e3⟩ := hr
  subst e1; subst e2; subst e3
  rw [ac_trs_s (by decide), ac_trs_c (by decide) hb1, ac_trs_s (by decide), ac_trs_s (by decide), ac_trs_s (by decide), ac_trs_c (by decide) hb2, ac_trs_s (by decide)] at hn ⊢
  simp only [ac_trs, List.append_nil, List.length_append] at hn ⊢
  refine mi_WC.of (X := mi_m9) rfl (Nat.le_of_ble_eq_true rfl) ?_
  refine w_iload_n mi_a9_0 rfl ?_
  refine w_lsw (off := 127) mi_a9_1 (by decide) (by decide) 128 (by decide) ?_
  refine w_aload_n mi_a9_128 rfl ?_
  refine w_aload_n mi_a9_129 rfl ?_
  refine w_iconstv (v := 3) mi_a9_130 (by decide) ?_
  refine w_iload_n mi_a9_131 rfl ?_
  refine w_iload mi_a9_132 rfl ?_
  refine w_callV mi_a9_134 rfl rfl 4 ⟨rfl, rfl⟩ ⟨Nat.le_of_ble_eq_true rfl, Nat.le_of_ble_eq_true rfl⟩ rfl rfl rfl rfl (an_ok H (by omega) hk he1 (by omega) hq (by omega) hj (by decide) (by decide) (sel_do (a := 3) (by decide) (by decide) hk hb1 he1)) ?_
  rintro r' h' ⟨rfl, rfl⟩
  have hd1 := mi_set_at (c := dc (nI k) w1 w2 v1_ c1_ rs) hj
  refine w_aload_n mi_a9_137 rfl ?_
  refine w_aload_n mi_a9_138 rfl ?_
  refine w_iconstv (v := 3) mi_a9_139 (by decide) ?_
  refine w_iload_n mi_a9_140 rfl ?_
  refine w_iconstv (v := 1) mi_a9_141 (by decide) ?_
  refine w_iadd mi_a9_142 ?_
  refine w_iload mi_a9_143 rfl ?_
  refine w_callV mi_a9_145 rfl rfl 4 ⟨rfl, rfl⟩ ⟨Nat.le_of_ble_eq_true rfl, Nat.le_of_ble_eq_true rfl⟩ rfl rfl rfl rfl (an_ok H (by omega) hk he2 (by omega) (by simp only [ac_kp_len]; exact hq) (by simp only [ac_kp_ran]; omega) hd1 (by decide) (by decide) (sel_do (a := 3) (by decide) (by decide) hk hb2 he2)) ?_
  rintro r' h' ⟨rfl, rfl⟩
  have hd2 := mi_set_at (c := dc (nI k) w1 w2 v2_ c2_ rs) hd1
  refine w_iadd mi_a9_148 ?_
  exact w_ireturn mi_a9_149 rfl ⟨rfl, by simp only [ac_kp_app, List.set_set]⟩
theorem bd_21 {f : Nat} (H : rn_ok f) {D : Nat} {n m tc pu stt : Int32} {q : List Int32 × Nat} {dv tk : List (Option Nat)} {dyn : mi_H} {j dp k : Nat} {x v c r v2 c2 : Int32} {w1 w2 : Value} {rs : List Value} (hD : 3 * f + 5 ≤ D) (hk : k < 11) (he : ac_ev (f + 1) (nI k) 21 x v c = some (r, v2, c2)) (hdp : dp + f ≤ 41) (hq : q.1.length = 64) (hn : q.2 + (ac_trs (ac_tr f (nI k)) (nI k) 21 [1000, 1104, 85, 1006]).length < 2 ^ 31) (hj : dyn[j]? = some (dc (nI k) w1 w2 v c rs)) : mi_WC D 9 [.ref 1, .ref (j + 6), .int 21, .int x, .int (nI dp)] (kh n m tc pu stt q dv tk dyn) (fun r' h' => r' = some (.int r) ∧ h' = kh n m tc pu stt (ac_kp (ac_trs (ac_tr f (nI k)) (nI k) 21 [1000, 1104, 85, 1006]) q) dv tk (dyn.set j (dc (nI k) w1 w2 v2 c2 rs))) := by
  obtain ⟨D, rfl⟩ : ∃ D', D = D' + 1 := ⟨D - 1, by omega⟩
  have h := ac_ev_tk (ts := [1000, 1104, 85, 1006]) (by decide +kernel) he
  replace h := ac_x_X h
  obtain ⟨b1, z1, v1_, c1_, hb1, he1, h⟩ := ac_x_call (by decide) h
  replace h := ac_x_n 85 h (by decide) (by decide)
  replace h := ac_x_xor h
  have hr := ac_x_nil h
  simp only [Prod.mk.injEq, List.cons.injEq, and_true] at hr
  obtain ⟨e1, e2, e3⟩ := hr
  subst e1; subst e2; subst e3
  rw [ac_trs_s (by decide), ac_trs_c (by decide) hb1, ac_trs_s (by decide), ac_trs_s (by decide)] at hn ⊢
  simp only [ac_trs, List.append_nil, List.length_append] at hn ⊢
  refine mi_WC.of (X := mi_m9) rfl (Nat.le_of_ble_eq_true rfl) ?_
  refine w_iload_n mi_a9_0 rfl ?_
  refine w_lsw (off := 149) mi_a9_1 (by decide) (by decide) 150 (by decide) ?_
  refine w_aload_n mi_a9_150 rfl ?_
  refine w_aload_n mi_a9_151 rfl ?_
  refine w_iconstv (v := 4) mi_a9_152 (by decide) ?_
  refine w_iload_n mi_a9_153 rfl ?_
  refine w_iload mi_a9_154 rfl ?_
  refine w_callV mi_a9_156 rfl rfl 4 ⟨rfl, rfl⟩ ⟨Nat.le_of_ble_eq_true rfl, Nat.le_of_ble_eq_true rfl⟩ rfl rfl rfl rfl (an_ok H (by omega) hk he1 (by omega) hq (by omega) hj (by decide) (by decide) (sel_do (a := 4) (by decide) (by decide) hk hb1 he1)) ?_
  rintro r' h' ⟨rfl, rfl⟩
  have hd1 := mi_set_at (c := dc (nI k) w1 w2 v1_ c1_ rs) hj
  refine w_bipushv (v := 85) mi_a9_159 (by decide) ?_
  refine w_ixor mi_a9_161 ?_
  exact w_ireturn mi_a9_162 rfl ⟨rfl, by simp only [ac_kp_app, List.set_set]⟩
theorem bd_30 {f : Nat} (H : rn_ok f) {D : Nat} {n m tc pu stt : Int32} {q : List Int32 × Nat} {dv tk : List (Option Nat)} {dyn : mi_H} {j dp k : Nat} {x v c r v2 c2 : Int32} {w1 w2 : Value} {rs : List Value} (hD : 3 * f + 5 ≤ D) (hk : k < 11) (he : ac_ev (f + 1) (nI k) 30 x v c = some (r, v2, c2)) (hdp : dp + f ≤ 41) (hq : q.1.length = 64) (hn : q.2 + (ac_trs (ac_tr f (nI k)) (nI k) 30 [1000, 1314, 1000, 1, 1003, 1326, 1003]).length < 2 ^ 31) (hj : dyn[j]? = some (dc (nI k) w1 w2 v c rs)) : mi_WC D 9 [.ref 1, .ref (j + 6), .int 30, .int x, .int (nI dp)] (kh n m tc pu stt q dv tk dyn) (fun r' h' => r' = some (.int r) ∧ h' = kh n m tc pu stt (ac_kp (ac_trs (ac_tr f (nI k)) (nI k) 30 [1000, 1314, 1000, 1, 1003, 1326, 1003]) q) dv tk (dyn.set j (dc (nI k) w1 w2 v2 c2 rs))) := by
  obtain ⟨D, rfl⟩ : ∃ D', D = D' + 1 := ⟨D - 1, by omega⟩
  have h := ac_ev_tk (ts := [1000, 1314, 1000, 1, 1003, 1326, 1003]) (by decide +kernel) he
  replace h := ac_x_X h
  obtain ⟨b1, z1, v1_, c1_, hb1, he1, h⟩ := ac_x_call (by decide) h
  have hv1 : b1 = 11 := Option.some.inj (hb1.symm.trans (show ac_sb (nI k) 30 1314 = some 11 from rfl))
  subst hv1
  replace h := ac_x_X h
  replace h := ac_x_n 1 h (by decide) (by decide)
  replace h := ac_x_add h
  obtain ⟨b2, z2, v2_, c2_, hb2, he2, h⟩ := ac_x_call (by decide) h
  have hv2 : b2 = 21 := Option.some.inj (hb2.symm.trans (show ac_sb (nI k) 30 1326 = some 21 from rfl))
  subst hv2
  replace h := ac_x_add h
  have hr := ac_x_nil h
  simp only [Prod.mk.injEq, List.cons.injEq, and_true] at hr
  obtain ⟨e1, e2, e3⟩ := hr
  subst e1; subst e2; subst e3
  rw [ac_trs_s (by decide), ac_trs_c (by decide) hb1, ac_trs_s (by decide), ac_trs_s (by decide), ac_trs_s (by decide), ac_trs_c (by decide) hb2, ac_trs_s (by decide)] at hn ⊢
  simp only [ac_trs, List.append_nil, List.length_append] at hn ⊢
  refine mi_WC.of (X := mi_m9) rfl (Nat.le_of_ble_eq_true rfl) ?_
  refine w_iload_n mi_a9_0 rfl ?_
  refine w_lsw (off := 162) mi_a9_1 (by decide) (by decide) 163 (by decide) ?_
  refine w_aload_n mi_a9_163 rfl ?_
  refine w_bipushv (v := 13) mi_a9_164 (by decide) ?_
  refine w_aload_n mi_a9_166 rfl ?_
  refine w_iconstv (v := 2) mi_a9_167 (by decide) ?_
  refine w_iload_n mi_a9_168 rfl ?_
  refine w_iload mi_a9_169 rfl ?_
  refine w_callV mi_a9_171 rfl rfl 5 ⟨rfl, rfl⟩ ⟨Nat.le_of_ble_eq_true rfl, Nat.le_of_ble_eq_true rfl⟩ rfl rfl rfl rfl (by_ok H (by omega) hk he1 (by omega) hq (by omega) hj (by decide) (by decide) (by decide) (by decide) (by decide +kernel)) ?_
  rintro r' h' ⟨rfl, rfl⟩
  have hd1 := mi_set_at (c := dc (nI k) w1 w2 v1_ c1_ rs) hj
  refine w_aload_n mi_a9_174 rfl ?_
  refine w_bipushv (v := 14) mi_a9_175 (by decide) ?_
  refine w_aload_n mi_a9_177 rfl ?_
  refine w_iconstv (v := 2) mi_a9_178 (by decide) ?_
  refine w_iload_n mi_a9_179 rfl ?_
  refine w_iconstv (v := 1) mi_a9_180 (by decide) ?_
  refine w_iadd mi_a9_181 ?_
  refine w_iload mi_a9_182 rfl ?_
  refine w_callV mi_a9_184 rfl rfl 5 ⟨rfl, rfl⟩ ⟨Nat.le_of_ble_eq_true rfl, Nat.le_of_ble_eq_true rfl⟩ rfl rfl rfl rfl (by_ok H (by omega) hk he2 (by omega) (by simp only [ac_kp_len]; exact hq) (by simp only [ac_kp_ran]; omega) hd1 (by decide) (by decide) (by decide) (by decide) (by decide +kernel)) ?_
  rintro r' h' ⟨rfl, rfl⟩
  have hd2 := mi_set_at (c := dc (nI k) w1 w2 v2_ c2_ rs) hd1
  refine w_iadd mi_a9_187 ?_
  exact w_ireturn mi_a9_188 rfl ⟨rfl, by simp only [ac_kp_app, List.set_set]⟩
theorem bd_40 {f : Nat} (H : rn_ok f) {D : Nat} {n m tc pu stt : Int32} {q : List Int32 × Nat} {dv tk : List (Option Nat)} {dyn : mi_H} {j dp k : Nat} {x v c r v2 c2 : Int32} {w1 w2 : Value} {rs : List Value} (hD : 3 * f + 5 ≤ D) (hk : k < 11) (he : ac_ev (f + 1) (nI k) 40 x v c = some (r, v2, c2)) (hdp : dp + f ≤ 41) (hq : q.1.length = 64) (hn : q.2 + (ac_trs (ac_tr f (nI k)) (nI k) 40 [1000, 1105, 1000, 1003]).length < 2 ^ 31) (hj : dyn[j]? = some (dc (nI k) w1 w2 v c rs)) : mi_WC D 9 [.ref 1, .ref (j + 6), .int 40, .int x, .int (nI dp)] (kh n m tc pu stt q dv tk dyn) (fun r' h' => r' = some (.int r) ∧ h' = kh n m tc pu stt (ac_kp (ac_trs (ac_tr f (nI k)) (nI k) 40 [1000, 1105, 1000, 1003]) q) dv tk (dyn.set j (dc (nI k) w1 w2 v2 c2 rs))) := by
  obtain ⟨D, rfl⟩ : ∃ D', D = D' + 1 := ⟨D - 1, by omega⟩
  have h := ac_ev_tk (ts := [1000, 1105, 1000, 1003]) (by decide +kernel) he
  replace h := ac_x_X h
  obtain ⟨b1, z1, v1_, c1_, hb1, he1, h⟩ := ac_x_call (by decide) h
  replace h := ac_x_X h
  replace h := ac_x_add h
  have hr := ac_x_nil h
  simp only [Prod.mk.injEq, List.cons.injEq, and_true] at hr
  obtain ⟨e1, e2, e3⟩ := hr
  subst e1; subst e2; subst e3
  rw [ac_trs_s (by decide), ac_trs_c (by decide) hb1, ac_trs_s (by decide), ac_trs_s (by decide)] at hn ⊢
  simp only [ac_trs, List.append_nil, List.length_append] at hn ⊢
  refine mi_WC.of (X := mi_m9) rfl (Nat.le_of_ble_eq_true rfl) ?_
  refine w_iload_n mi_a9_0 rfl ?_
  refine w_lsw (off := 188) mi_a9_1 (by decide) (by decide) 189 (by decide) ?_
  refine w_aload_n mi_a9_189 rfl ?_
  refine w_aload_n mi_a9_190 rfl ?_
  refine w_iconstv (v := 5) mi_a9_191 (by decide) ?_
  refine w_iload_n mi_a9_192 rfl ?_
  refine w_iload mi_a9_193 rfl ?_
  refine w_callV mi_a9_195 rfl rfl 4 ⟨rfl, rfl⟩ ⟨Nat.le_of_ble_eq_true rfl, Nat.le_of_ble_eq_true rfl⟩ rfl rfl rfl rfl (an_ok H (by omega) hk he1 (by omega) hq (by omega) hj (by decide) (by decide) (sel_do (a := 5) (by decide) (by decide) hk hb1 he1)) ?_
  rintro r' h' ⟨rfl, rfl⟩
  have hd1 := mi_set_at (c := dc (nI k) w1 w2 v1_ c1_ rs) hj
  refine w_iload_n mi_a9_198 rfl ?_
  refine w_iadd mi_a9_199 ?_
  exact w_ireturn mi_a9_200 rfl ⟨rfl, by simp only [ac_kp_app, List.set_set]⟩
theorem bd_41 {f : Nat} (H : rn_ok f) {D : Nat} {n m tc pu stt : Int32} {q : List Int32 × Nat} {dv tk : List (Option Nat)} {dyn : mi_H} {j dp k : Nat} {x v c r v2 c2 : Int32} {w1 w2 : Value} {rs : List Value} (hD : 3 * f + 5 ≤ D) (hk : k < 11) (he : ac_ev (f + 1) (nI k) 41 x v c = some (r, v2, c2)) (hdp : dp + f ≤ 41) (hq : q.1.length = 64) (hn : q.2 + (ac_trs (ac_tr f (nI k)) (nI k) 41 [1000, 1106, 2, 1005, 1, 1106, 1003]).length < 2 ^ 31) (hj : dyn[j]? = some (dc (nI k) w1 w2 v c rs)) : mi_WC D 9 [.ref 1, .ref (j + 6), .int 41, .int x, .int (nI dp)] (kh n m tc pu stt q dv tk dyn) (fun r' h' => r' = some (.int r) ∧ h' = kh n m tc pu stt (ac_kp (ac_trs (ac_tr f (nI k)) (nI k) 41 [1000, 1106, 2, 1005, 1, 1106, 1003]) q) dv tk (dyn.set j (dc (nI k) w1 w2 v2 c2 rs))) := by
  obtain ⟨D, rfl⟩ : ∃ D', D = D' + 1 := ⟨D - 1, by omega⟩
  have h := ac_ev_tk (ts := [1000, 1106, 2, 1005, 1, 1106, 1003]) (by decide +kernel) he
  replace h := ac_x_X h
  obtain ⟨b1, z1, v1_, c1_, hb1, he1, h⟩ := ac_x_call (by decide) h
  replace h := ac_x_n 2 h (by decide) (by decide)
  replace h := ac_x_mul h
  replace h := ac_x_n 1 h (by decide) (by decide)
  obtain ⟨b2, z2, v2_, c2_, hb2, he2, h⟩ := ac_x_call (by decide) h
  replace h := ac_x_add h
  have hr := ac_x_nil h
  simp only [Prod.mk.injEq, List.cons.injEq, and_true] at hr
  obtain ⟨e1, e2, e3⟩ := hr
  subst e1; subst e2; subst e3
  rw [ac_trs_s (by decide), ac_trs_c (by decide) hb1, ac_trs_s (by decide), ac_trs_s (by decide), ac_trs_s (by decide), ac_trs_c (by decide) hb2, ac_trs_s (by decide)] at hn ⊢
  simp only [ac_trs, List.append_nil, List.length_append] at hn ⊢
  refine mi_WC.of (X := mi_m9) rfl (Nat.le_of_ble_eq_true rfl) ?_
  refine w_iload_n mi_a9_0 rfl ?_
  refine w_lsw (off := 200) mi_a9_1 (by decide) (by decide) 201 (by decide) ?_
  refine w_aload_n mi_a9_201 rfl ?_
  refine w_aload_n mi_a9_202 rfl ?_
  refine w_bipushv (v := 6) mi_a9_203 (by decide) ?_
  refine w_iload_n mi_a9_205 rfl ?_
  refine w_iload mi_a9_206 rfl ?_
  refine w_callV mi_a9_208 rfl rfl 4 ⟨rfl, rfl⟩ ⟨Nat.le_of_ble_eq_true rfl, Nat.le_of_ble_eq_true rfl⟩ rfl rfl rfl rfl (an_ok H (by omega) hk he1 (by omega) hq (by omega) hj (by decide) (by decide) (sel_do (a := 6) (by decide) (by decide) hk hb1 he1)) ?_
  rintro r' h' ⟨rfl, rfl⟩
  have hd1 := mi_set_at (c := dc (nI k) w1 w2 v1_ c1_ rs) hj
  refine w_iconstv (v := 2) mi_a9_211 (by decide) ?_
  refine w_imul mi_a9_212 ?_
  refine w_aload_n mi_a9_213 rfl ?_
  refine w_aload_n mi_a9_214 rfl ?_
  refine w_bipushv (v := 6) mi_a9_215 (by decide) ?_
  refine w_iconstv (v := 1) mi_a9_217 (by decide) ?_
  refine w_iload mi_a9_218 rfl ?_
  refine w_callV mi_a9_220 rfl rfl 4 ⟨rfl, rfl⟩ ⟨Nat.le_of_ble_eq_true rfl, Nat.le_of_ble_eq_true rfl⟩ rfl rfl rfl rfl (an_ok H (by omega) hk he2 (by omega) (by simp only [ac_kp_len]; exact hq) (by simp only [ac_kp_ran]; omega) hd1 (by decide) (by decide) (sel_do (a := 6) (by decide) (by decide) hk hb2 he2)) ?_
  rintro r' h' ⟨rfl, rfl⟩
  have hd2 := mi_set_at (c := dc (nI k) w1 w2 v2_ c2_ rs) hd1
  refine w_iadd mi_a9_223 ?_
  exact w_ireturn mi_a9_224 rfl ⟨rfl, by simp only [ac_kp_app, List.set_set]⟩
theorem bd_50 {f : Nat} (H : rn_ok f) {D : Nat} {n m tc pu stt : Int32} {q : List Int32 × Nat} {dv tk : List (Option Nat)} {dyn : mi_H} {j dp k : Nat} {x v c r v2 c2 : Int32} {w1 w2 : Value} {rs : List Value} (hD : 3 * f + 5 ≤ D) (hk : k < 11) (he : ac_ev (f + 1) (nI k) 50 x v c = some (r, v2, c2)) (hdp : dp + f ≤ 41) (hq : q.1.length = 64) (hn : q.2 + (ac_trs (ac_tr f (nI k)) (nI k) 50 [1000, 1355, 1000, 1108, 1004]).length < 2 ^ 31) (hj : dyn[j]? = some (dc (nI k) w1 w2 v c rs)) : mi_WC D 9 [.ref 1, .ref (j + 6), .int 50, .int x, .int (nI dp)] (kh n m tc pu stt q dv tk dyn) (fun r' h' => r' = some (.int r) ∧ h' = kh n m tc pu stt (ac_kp (ac_trs (ac_tr f (nI k)) (nI k) 50 [1000, 1355, 1000, 1108, 1004]) q) dv tk (dyn.set j (dc (nI k) w1 w2 v2 c2 rs))) := by
  obtain ⟨D, rfl⟩ : ∃ D', D = D' + 1 := ⟨D - 1, by omega⟩
  have h := ac_ev_tk (ts := [1000, 1355, 1000, 1108, 1004]) (by decide +kernel) he
  replace h := ac_x_X h
  obtain ⟨b1, z1, v1_, c1_, hb1, he1, h⟩ := ac_x_call (by decide) h
  have hv1 : b1 = 41 := Option.some.inj (hb1.symm.trans (show ac_sb (nI k) 50 1355 = some 41 from rfl))
  subst hv1
  replace h := ac_x_X h
  obtain ⟨b2, z2, v2_, c2_, hb2, he2, h⟩ := ac_x_call (by decide) h
  replace h := ac_x_sub h
  have hr := ac_x_nil h
  simp only [Prod.mk.injEq, List.cons.injEq, and_true] at hr
  obtain ⟨e1, e2, e3⟩ := hr
  subst e1; subst e2; subst e3
  rw [ac_trs_s (by decide), ac_trs_c (by decide) hb1, ac_trs_s (by decide), ac_trs_c (by decide) hb2, ac_trs_s (by decide)] at hn ⊢
  simp only [ac_trs, List.append_nil, List.length_append] at hn ⊢
  refine mi_WC.of (X := mi_m9) rfl (Nat.le_of_ble_eq_true rfl) ?_
  refine w_iload_n mi_a9_0 rfl ?_
  refine w_lsw (off := 224) mi_a9_1 (by decide) (by decide) 225 (by decide) ?_
  refine w_aload_n mi_a9_225 rfl ?_
  refine w_bipushv (v := 16) mi_a9_226 (by decide) ?_
  refine w_aload_n mi_a9_228 rfl ?_
  refine w_bipushv (v := 7) mi_a9_229 (by decide) ?_
  refine w_iload_n mi_a9_231 rfl ?_
  refine w_iload mi_a9_232 rfl ?_
  refine w_callV mi_a9_234 rfl rfl 5 ⟨rfl, rfl⟩ ⟨Nat.le_of_ble_eq_true rfl, Nat.le_of_ble_eq_true rfl⟩ rfl rfl rfl rfl (by_ok H (by omega) hk he1 (by omega) hq (by omega) hj (by decide) (by decide) (by decide) (by decide) (by decide +kernel)) ?_
  rintro r' h' ⟨rfl, rfl⟩
  have hd1 := mi_set_at (c := dc (nI k) w1 w2 v1_ c1_ rs) hj
  refine w_aload_n mi_a9_237 rfl ?_
  refine w_aload_n mi_a9_238 rfl ?_
  refine w_bipushv (v := 8) mi_a9_239 (by decide) ?_
  refine w_iload_n mi_a9_241 rfl ?_
  refine w_iload mi_a9_242 rfl ?_
  refine w_callV mi_a9_244 rfl rfl 4 ⟨rfl, rfl⟩ ⟨Nat.le_of_ble_eq_true rfl, Nat.le_of_ble_eq_true rfl⟩ rfl rfl rfl rfl (an_ok H (by omega) hk he2 (by omega) (by simp only [ac_kp_len]; exact hq) (by simp only [ac_kp_ran]; omega) hd1 (by decide) (by decide) (sel_do (a := 8) (by decide) (by decide) hk hb2 he2)) ?_
  rintro r' h' ⟨rfl, rfl⟩
  have hd2 := mi_set_at (c := dc (nI k) w1 w2 v2_ c2_ rs) hd1
  refine w_isub mi_a9_247 ?_
  exact w_ireturn mi_a9_248 rfl ⟨rfl, by simp only [ac_kp_app, List.set_set]⟩
theorem bd_51 {f : Nat} (H : rn_ok f) {D : Nat} {n m tc pu stt : Int32} {q : List Int32 × Nat} {dv tk : List (Option Nat)} {dyn : mi_H} {j dp k : Nat} {x v c r v2 c2 : Int32} {w1 w2 : Value} {rs : List Value} (hD : 3 * f + 5 ≤ D) (hk : k < 11) (he : ac_ev (f + 1) (nI k) 51 x v c = some (r, v2, c2)) (hdp : dp + f ≤ 41) (hq : q.1.length = 64) (hn : q.2 + (ac_trs (ac_tr f (nI k)) (nI k) 51 [1000, 2052, 2, 1105, 1003]).length < 2 ^ 31) (hj : dyn[j]? = some (dc (nI k) w1 w2 v c rs)) : mi_WC D 9 [.ref 1, .ref (j + 6), .int 51, .int x, .int (nI dp)] (kh n m tc pu stt q dv tk dyn) (fun r' h' => r' = some (.int r) ∧ h' = kh n m tc pu stt (ac_kp (ac_trs (ac_tr f (nI k)) (nI k) 51 [1000, 2052, 2, 1105, 1003]) q) dv tk (dyn.set j (dc (nI k) w1 w2 v2 c2 rs))) := by
  obtain ⟨D, rfl⟩ : ∃ D', D = D' + 1 := ⟨D - 1, by omega⟩
  have h := ac_ev_tk (ts := [1000, 2052, 2, 1105, 1003]) (by decide +kernel) he
  replace h := ac_x_X h
  obtain ⟨b1, z1, v1_, c1_, hb1, he1, h⟩ := ac_x_call (by decide) h
  have hv1 : b1 = 52 := Option.some.inj (hb1.symm.trans (show ac_sb (nI k) 51 2052 = some 52 from rfl))
  subst hv1
  replace h := ac_x_n 2 h (by decide) (by decide)
  obtain ⟨b2, z2, v2_, c2_, hb2, he2, h⟩ := ac_x_call (by decide) h
  replace h := ac_x_add h
  have hr := ac_x_nil h
  simp only [Prod.mk.injEq, List.cons.injEq, and_true] at hr
  obtain ⟨e1, e2, e3⟩ := hr
  subst e1; subst e2; subst e3
  rw [ac_trs_s (by decide), ac_trs_c (by decide) hb1, ac_trs_s (by decide), ac_trs_c (by decide) hb2, ac_trs_s (by decide)] at hn ⊢
  simp only [ac_trs, List.append_nil, List.length_append] at hn ⊢
  refine mi_WC.of (X := mi_m9) rfl (Nat.le_of_ble_eq_true rfl) ?_
  refine w_iload_n mi_a9_0 rfl ?_
  refine w_lsw (off := 248) mi_a9_1 (by decide) (by decide) 249 (by decide) ?_
  refine w_aload_n mi_a9_249 rfl ?_
  refine w_aload_n mi_a9_250 rfl ?_
  refine w_bipushv (v := 52) mi_a9_251 (by decide) ?_
  refine w_iload_n mi_a9_253 rfl ?_
  refine w_iload mi_a9_254 rfl ?_
  refine w_callV mi_a9_256 rfl rfl 4 ⟨rfl, rfl⟩ ⟨Nat.le_of_ble_eq_true rfl, Nat.le_of_ble_eq_true rfl⟩ rfl rfl rfl rfl (H _ _ _ _ _ _ _ _ _ _ _ _ _ _ _ _ _ _ _ _ _ _ _ (by omega) hk he1 (by omega) hq (by omega) hj) ?_
  rintro r' h' ⟨rfl, rfl⟩
  have hd1 := mi_set_at (c := dc (nI k) w1 w2 v1_ c1_ rs) hj
  refine w_aload_n mi_a9_259 rfl ?_
  refine w_aload_n mi_a9_260 rfl ?_
  refine w_iconstv (v := 5) mi_a9_261 (by decide) ?_
  refine w_iconstv (v := 2) mi_a9_262 (by decide) ?_
  refine w_iload mi_a9_263 rfl ?_
  refine w_callV mi_a9_265 rfl rfl 4 ⟨rfl, rfl⟩ ⟨Nat.le_of_ble_eq_true rfl, Nat.le_of_ble_eq_true rfl⟩ rfl rfl rfl rfl (an_ok H (by omega) hk he2 (by omega) (by simp only [ac_kp_len]; exact hq) (by simp only [ac_kp_ran]; omega) hd1 (by decide) (by decide) (sel_do (a := 5) (by decide) (by decide) hk hb2 he2)) ?_
  rintro r' h' ⟨rfl, rfl⟩
  have hd2 := mi_set_at (c := dc (nI k) w1 w2 v2_ c2_ rs) hd1
  refine w_iadd mi_a9_268 ?_
  exact w_ireturn mi_a9_269 rfl ⟨rfl, by simp only [ac_kp_app, List.set_set]⟩
theorem bd_52 {f : Nat} (H : rn_ok f) {D : Nat} {n m tc pu stt : Int32} {q : List Int32 × Nat} {dv tk : List (Option Nat)} {dyn : mi_H} {j dp k : Nat} {x v c r v2 c2 : Int32} {w1 w2 : Value} {rs : List Value} (hD : 3 * f + 5 ≤ D) (hk : k < 11) (he : ac_ev (f + 1) (nI k) 52 x v c = some (r, v2, c2)) (hdp : dp + f ≤ 41) (hq : q.1.length = 64) (hn : q.2 + (ac_trs (ac_tr f (nI k)) (nI k) 52 [1000, 1105, 5, 1005]).length < 2 ^ 31) (hj : dyn[j]? = some (dc (nI k) w1 w2 v c rs)) : mi_WC D 9 [.ref 1, .ref (j + 6), .int 52, .int x, .int (nI dp)] (kh n m tc pu stt q dv tk dyn) (fun r' h' => r' = some (.int r) ∧ h' = kh n m tc pu stt (ac_kp (ac_trs (ac_tr f (nI k)) (nI k) 52 [1000, 1105, 5, 1005]) q) dv tk (dyn.set j (dc (nI k) w1 w2 v2 c2 rs))) := by
  obtain ⟨D, rfl⟩ : ∃ D', D = D' + 1 := ⟨D - 1, by omega⟩
  have h := ac_ev_tk (ts := [1000, 1105, 5, 1005]) (by decide +kernel) he
  replace h := ac_x_X h
  obtain ⟨b1, z1, v1_, c1_, hb1, he1, h⟩ := ac_x_call (by decide) h
  replace h := ac_x_n 5 h (by decide) (by decide)
  replace h := ac_x_mul h
  have hr := ac_x_nil h
  simp only [Prod.mk.injEq, List.cons.injEq, and_true] at hr
  obtain ⟨e1, e2, e3⟩ := hr
  subst e1; subst e2; subst e3
  rw [ac_trs_s (by decide), ac_trs_c (by decide) hb1, ac_trs_s (by decide), ac_trs_s (by decide)] at hn ⊢
  simp only [ac_trs, List.append_nil, List.length_append] at hn ⊢
  refine mi_WC.of (X := mi_m9) rfl (Nat.le_of_ble_eq_true rfl) ?_
  refine w_iload_n mi_a9_0 rfl ?_
  refine w_lsw (off := 269) mi_a9_1 (by decide) (by decide) 270 (by decide) ?_
  refine w_aload_n mi_a9_270 rfl ?_
  refine w_aload_n mi_a9_271 rfl ?_
  refine w_iconstv (v := 5) mi_a9_272 (by decide) ?_
  refine w_iload_n mi_a9_273 rfl ?_
  refine w_iload mi_a9_274 rfl ?_
  refine w_callV mi_a9_276 rfl rfl 4 ⟨rfl, rfl⟩ ⟨Nat.le_of_ble_eq_true rfl, Nat.le_of_ble_eq_true rfl⟩ rfl rfl rfl rfl (an_ok H (by omega) hk he1 (by omega) hq (by omega) hj (by decide) (by decide) (sel_do (a := 5) (by decide) (by decide) hk hb1 he1)) ?_
  rintro r' h' ⟨rfl, rfl⟩
  have hd1 := mi_set_at (c := dc (nI k) w1 w2 v1_ c1_ rs) hj
  refine w_iconstv (v := 5) mi_a9_279 (by decide) ?_
  refine w_imul mi_a9_280 ?_
  exact w_ireturn mi_a9_281 rfl ⟨rfl, by simp only [ac_kp_app, List.set_set]⟩
theorem bd_60 {f : Nat} (H : rn_ok f) {D : Nat} {n m tc pu stt : Int32} {q : List Int32 × Nat} {dv tk : List (Option Nat)} {dyn : mi_H} {j dp k : Nat} {x v c r v2 c2 : Int32} {w1 w2 : Value} {rs : List Value} (hD : 3 * f + 5 ≤ D) (hk : k < 11) (he : ac_ev (f + 1) (nI k) 60 x v c = some (r, v2, c2)) (hdp : dp + f ≤ 41) (hq : q.1.length = 64) (hn : q.2 + (ac_trs (ac_tr f (nI k)) (nI k) 60 [1001, 1000, 1003, 1008, 1001]).length < 2 ^ 31) (hj : dyn[j]? = some (dc (nI k) w1 w2 v c rs)) : mi_WC D 10 [.ref 1, .ref (j + 6), .int 60, .int x, .int (nI dp)] (kh n m tc pu stt q dv tk dyn) (fun r' h' => r' = some (.int r) ∧ h' = kh n m tc pu stt (ac_kp (ac_trs (ac_tr f (nI k)) (nI k) 60 [1001, 1000, 1003, 1008, 1001]) q) dv tk (dyn.set j (dc (nI k) w1 w2 v2 c2 rs))) := by
  obtain ⟨D, rfl⟩ : ∃ D', D = D' + 1 := ⟨D - 1, by omega⟩
  have h := ac_ev_tk (ts := [1001, 1000, 1003, 1008, 1001]) (by decide +kernel) he
  replace h := ac_x_V h
  replace h := ac_x_X h
  replace h := ac_x_add h
  replace h := ac_x_tv h
  replace h := ac_x_V h
  have hr := ac_x_nil h
  simp only [Prod.mk.injEq, List.cons.injEq, and_true] at hr
  obtain ⟨e1, e2, e3⟩ := hr
  subst e1; subst e2; subst e3
  rw [ac_trs_s (by decide), ac_trs_s (by decide), ac_trs_s (by decide), ac_trs_s (by decide), ac_trs_s (by decide)] at hn ⊢
  simp only [ac_trs, List.append_nil, List.length_append] at hn ⊢
  refine mi_WC.of (X := mi_m10) rfl (Nat.le_of_ble_eq_true rfl) ?_
  refine w_iload_n mi_a10_0 rfl ?_
  refine w_tswIn (off := 59) mi_a10_1 (by decide) (by decide) 60 (by decide) ?_
  refine w_aload_n mi_a10_60 rfl ?_
  refine w_dup mi_a10_61 rfl ?_
  refine w_get mi_a10_62 rfl hj rfl ?_
  refine w_iload_n mi_a10_65 rfl ?_
  refine w_iadd mi_a10_66 ?_
  refine w_put mi_a10_67 rfl hj (Nat.le_of_ble_eq_true rfl) rfl ?_
  refine w_aload_n mi_a10_70 rfl ?_
  refine w_get mi_a10_71 rfl (mi_set_at hj) rfl ?_
  exact w_ireturn mi_a10_74 rfl ⟨rfl, rfl⟩
theorem bd_61 {f : Nat} (H : rn_ok f) {D : Nat} {n m tc pu stt : Int32} {q : List Int32 × Nat} {dv tk : List (Option Nat)} {dyn : mi_H} {j dp k : Nat} {x v c r v2 c2 : Int32} {w1 w2 : Value} {rs : List Value} (hD : 3 * f + 5 ≤ D) (hk : k < 11) (he : ac_ev (f + 1) (nI k) 61 x v c = some (r, v2, c2)) (hdp : dp + f ≤ 41) (hq : q.1.length = 64) (hn : q.2 + (ac_trs (ac_tr f (nI k)) (nI k) 61 [1001, 3, 1000, 1005, 1004, 1008, 1001]).length < 2 ^ 31) (hj : dyn[j]? = some (dc (nI k) w1 w2 v c rs)) : mi_WC D 10 [.ref 1, .ref (j + 6), .int 61, .int x, .int (nI dp)] (kh n m tc pu stt q dv tk dyn) (fun r' h' => r' = some (.int r) ∧ h' = kh n m tc pu stt (ac_kp (ac_trs (ac_tr f (nI k)) (nI k) 61 [1001, 3, 1000, 1005, 1004, 1008, 1001]) q) dv tk (dyn.set j (dc (nI k) w1 w2 v2 c2 rs))) := by
  obtain ⟨D, rfl⟩ : ∃ D', D = D' + 1 := ⟨D - 1, by omega⟩
  have h := ac_ev_tk (ts := [1001, 3, 1000, 1005, 1004, 1008, 1001]) (by decide +kernel) he
  replace h := ac_x_V h
  replace h := ac_x_n 3 h (by decide) (by decide)
  replace h := ac_x_X h
  replace h := ac_x_mul h
  replace h := ac_x_sub h
  replace h := ac_x_tv h
  replace h := ac_x_V h
  have hr := ac_x_nil h
  simp only [Prod.mk.injEq, List.cons.injEq, and_true] at hr
  obtain ⟨e1, e2, e3⟩ := hr
  subst e1; subst e2; subst e3
  rw [ac_trs_s (by decide), ac_trs_s (by decide), ac_trs_s (by decide), ac_trs_s (by decide), ac_trs_s (by decide), ac_trs_s (by decide), ac_trs_s (by decide)] at hn ⊢
  simp only [ac_trs, List.append_nil, List.length_append] at hn ⊢
  refine mi_WC.of (X := mi_m10) rfl (Nat.le_of_ble_eq_true rfl) ?_
  refine w_iload_n mi_a10_0 rfl ?_
  refine w_tswIn (off := 74) mi_a10_1 (by decide) (by decide) 75 (by decide) ?_
  refine w_aload_n mi_a10_75 rfl ?_
  refine w_dup mi_a10_76 rfl ?_
  refine w_get mi_a10_77 rfl hj rfl ?_
  refine w_iconstv (v := 3) mi_a10_80 (by decide) ?_
  refine w_iload_n mi_a10_81 rfl ?_
  refine w_imul mi_a10_82 ?_
  refine w_isub mi_a10_83 ?_
  refine w_put mi_a10_84 rfl hj (Nat.le_of_ble_eq_true rfl) rfl ?_
  refine w_aload_n mi_a10_87 rfl ?_
  refine w_get mi_a10_88 rfl (mi_set_at hj) rfl ?_
  exact w_ireturn mi_a10_91 rfl ⟨rfl, rfl⟩
theorem bd_62 {f : Nat} (H : rn_ok f) {D : Nat} {n m tc pu stt : Int32} {q : List Int32 × Nat} {dv tk : List (Option Nat)} {dyn : mi_H} {j dp k : Nat} {x v c r v2 c2 : Int32} {w1 w2 : Value} {rs : List Value} (hD : 3 * f + 5 ≤ D) (hk : k < 11) (he : ac_ev (f + 1) (nI k) 62 x v c = some (r, v2, c2)) (hdp : dp + f ≤ 41) (hq : q.1.length = 64) (hn : q.2 + (ac_trs (ac_tr f (nI k)) (nI k) 62 [1001, 31, 1005, 1000, 1003, 1008, 1001]).length < 2 ^ 31) (hj : dyn[j]? = some (dc (nI k) w1 w2 v c rs)) : mi_WC D 10 [.ref 1, .ref (j + 6), .int 62, .int x, .int (nI dp)] (kh n m tc pu stt q dv tk dyn) (fun r' h' => r' = some (.int r) ∧ h' = kh n m tc pu stt (ac_kp (ac_trs (ac_tr f (nI k)) (nI k) 62 [1001, 31, 1005, 1000, 1003, 1008, 1001]) q) dv tk (dyn.set j (dc (nI k) w1 w2 v2 c2 rs))) := by
  obtain ⟨D, rfl⟩ : ∃ D', D = D' + 1 := ⟨D - 1, by omega⟩
  have h := ac_ev_tk (ts := [1001, 31, 1005, 1000, 1003, 1008, 1001]) (by decide +kernel) he
  replace h := ac_x_V h
  replace h := ac_x_n 31 h (by decide) (by decide)
  replace h := ac_x_mul h
  replace h := ac_x_X h
  replace h := ac_x_add h
  replace h := ac_x_tv h
  replace h := ac_x_V h
  have hr := ac_x_nil h
  simp only [Prod.mk.injEq, List.cons.injEq, and_true] at hr
  obtain ⟨e1, e2, e3⟩ := hr
  subst e1; subst e2; subst e3
  rw [ac_trs_s (by decide), ac_trs_s (by decide), ac_trs_s (by decide), ac_trs_s (by decide), ac_trs_s (by decide), ac_trs_s (by decide), ac_trs_s (by decide)] at hn ⊢
  simp only [ac_trs, List.append_nil, List.length_append] at hn ⊢
  refine mi_WC.of (X := mi_m10) rfl (Nat.le_of_ble_eq_true rfl) ?_
  refine w_iload_n mi_a10_0 rfl ?_
  refine w_tswIn (off := 91) mi_a10_1 (by decide) (by decide) 92 (by decide) ?_
  refine w_aload_n mi_a10_92 rfl ?_
  refine w_aload_n mi_a10_93 rfl ?_
  refine w_get mi_a10_94 rfl hj rfl ?_
  refine w_bipushv (v := 31) mi_a10_97 (by decide) ?_
  refine w_imul mi_a10_99 ?_
  refine w_iload_n mi_a10_100 rfl ?_
  refine w_iadd mi_a10_101 ?_
  refine w_put mi_a10_102 rfl hj (Nat.le_of_ble_eq_true rfl) rfl ?_
  refine w_aload_n mi_a10_105 rfl ?_
  refine w_get mi_a10_106 rfl (mi_set_at hj) rfl ?_
  exact w_ireturn mi_a10_109 rfl ⟨rfl, rfl⟩
theorem bd_63 {f : Nat} (H : rn_ok f) {D : Nat} {n m tc pu stt : Int32} {q : List Int32 × Nat} {dv tk : List (Option Nat)} {dyn : mi_H} {j dp k : Nat} {x v c r v2 c2 : Int32} {w1 w2 : Value} {rs : List Value} (hD : 3 * f + 5 ≤ D) (hk : k < 11) (he : ac_ev (f + 1) (nI k) 63 x v c = some (r, v2, c2)) (hdp : dp + f ≤ 41) (hq : q.1.length = 64) (hn : q.2 + (ac_trs (ac_tr f (nI k)) (nI k) 63 [1001, 1000, 1006]).length < 2 ^ 31) (hj : dyn[j]? = some (dc (nI k) w1 w2 v c rs)) : mi_WC D 10 [.ref 1, .ref (j + 6), .int 63, .int x, .int (nI dp)] (kh n m tc pu stt q dv tk dyn) (fun r' h' => r' = some (.int r) ∧ h' = kh n m tc pu stt (ac_kp (ac_trs (ac_tr f (nI k)) (nI k) 63 [1001, 1000, 1006]) q) dv tk (dyn.set j (dc (nI k) w1 w2 v2 c2 rs))) := by
  obtain ⟨D, rfl⟩ : ∃ D', D = D' + 1 := ⟨D - 1, by omega⟩
  have h := ac_ev_tk (ts := [1001, 1000, 1006]) (by decide +kernel) he
  replace h := ac_x_V h
  replace h := ac_x_X h
  replace h := ac_x_xor h
  have hr := ac_x_nil h
  simp only [Prod.mk.injEq, List.cons.injEq, and_true] at hr
  obtain ⟨e1, e2, e3⟩ := hr
  subst e1; subst e2; subst e3
  rw [ac_trs_s (by decide), ac_trs_s (by decide), ac_trs_s (by decide)] at hn ⊢
  simp only [ac_trs, List.append_nil, List.length_append] at hn ⊢
  refine mi_WC.of (X := mi_m10) rfl (Nat.le_of_ble_eq_true rfl) ?_
  refine w_iload_n mi_a10_0 rfl ?_
  refine w_tswIn (off := 109) mi_a10_1 (by decide) (by decide) 110 (by decide) ?_
  refine w_aload_n mi_a10_110 rfl ?_
  refine w_get mi_a10_111 rfl hj rfl ?_
  refine w_iload_n mi_a10_114 rfl ?_
  refine w_ixor mi_a10_115 ?_
  exact w_ireturn mi_a10_116 rfl ⟨rfl, by rw [mi_set_same hj]; rfl⟩
theorem bd_64 {f : Nat} (H : rn_ok f) {D : Nat} {n m tc pu stt : Int32} {q : List Int32 × Nat} {dv tk : List (Option Nat)} {dyn : mi_H} {j dp k : Nat} {x v c r v2 c2 : Int32} {w1 w2 : Value} {rs : List Value} (hD : 3 * f + 5 ≤ D) (hk : k < 11) (he : ac_ev (f + 1) (nI k) 64 x v c = some (r, v2, c2)) (hdp : dp + f ≤ 41) (hq : q.1.length = 64) (hn : q.2 + (ac_trs (ac_tr f (nI k)) (nI k) 64 [1000, 1109, 1, 1110, 1003, 1000, 2063, 1003]).length < 2 ^ 31) (hj : dyn[j]? = some (dc (nI k) w1 w2 v c rs)) : mi_WC D 10 [.ref 1, .ref (j + 6), .int 64, .int x, .int (nI dp)] (kh n m tc pu stt q dv tk dyn) (fun r' h' => r' = some (.int r) ∧ h' = kh n m tc pu stt (ac_kp (ac_trs (ac_tr f (nI k)) (nI k) 64 [1000, 1109, 1, 1110, 1003, 1000, 2063, 1003]) q) dv tk (dyn.set j (dc (nI k) w1 w2 v2 c2 rs))) := by
  obtain ⟨D, rfl⟩ : ∃ D', D = D' + 1 := ⟨D - 1, by omega⟩
  have h := ac_ev_tk (ts := [1000, 1109, 1, 1110, 1003, 1000, 2063, 1003]) (by decide +kernel) he
  replace h := ac_x_X h
  obtain ⟨b1, z1, v1_, c1_, hb1, he1, h⟩ := ac_x_call (by decide) h
  replace h := ac_x_n 1 h (by decide) (by decide)
  obtain ⟨b2, z2, v2_, c2_, hb2, he2, h⟩ := ac_x_call (by decide) h
  replace h := ac_x_add h
  replace h := ac_x_X h
  obtain ⟨b3, z3, v3_, c3_, hb3, he3, h⟩ := ac_x_call (by decide) h
  have hv3 : b3 = 63 := Option.some.inj (hb3.symm.trans (show ac_sb (nI k) 64 2063 = some 63 from rfl))
  subst hv3
  replace h := ac_x_add h
  have hr := ac_x_nil h
  simp only [Prod.mk.injEq, List.cons.injEq, and_true] at hr
  obtain ⟨e1, e2, e3⟩ := hr
  subst e1; subst e2; subst e3
  rw [ac_trs_s (by decide), ac_trs_c (by decide) hb1, ac_trs_s (by decide), ac_trs_c (by decide) hb2, ac_trs_s (by decide), ac_trs_s (by decide), ac_trs_c (by decide) hb3, ac_trs_s (by decide)] at hn ⊢
  simp only [ac_trs, List.append_nil, List.length_append] at hn ⊢
  refine mi_WC.of (X := mi_m10) rfl (Nat.le_of_ble_eq_true rfl) ?_
  refine w_iload_n mi_a10_0 rfl ?_
  refine w_tswIn (off := 116) mi_a10_1 (by decide) (by decide) 117 (by decide) ?_
  refine w_aload_n mi_a10_117 rfl ?_
  refine w_aload_n mi_a10_118 rfl ?_
  refine w_bipushv (v := 9) mi_a10_119 (by decide) ?_
  refine w_iload_n mi_a10_121 rfl ?_
  refine w_iload mi_a10_122 rfl ?_
  refine w_callV mi_a10_124 rfl rfl 4 ⟨rfl, rfl⟩ ⟨Nat.le_of_ble_eq_true rfl, Nat.le_of_ble_eq_true rfl⟩ rfl rfl rfl rfl (an_ok H (by omega) hk he1 (by omega) hq (by omega) hj (by decide) (by decide) (sel_do (a := 9) (by decide) (by decide) hk hb1 he1)) ?_
  rintro r' h' ⟨rfl, rfl⟩
  have hd1 := mi_set_at (c := dc (nI k) w1 w2 v1_ c1_ rs) hj
  refine w_aload_n mi_a10_127 rfl ?_
  refine w_aload_n mi_a10_128 rfl ?_
  refine w_bipushv (v := 10) mi_a10_129 (by decide) ?_
  refine w_iconstv (v := 1) mi_a10_131 (by decide) ?_
  refine w_iload mi_a10_132 rfl ?_
  refine w_callV mi_a10_134 rfl rfl 4 ⟨rfl, rfl⟩ ⟨Nat.le_of_ble_eq_true rfl, Nat.le_of_ble_eq_true rfl⟩ rfl rfl rfl rfl (an_ok H (by omega) hk he2 (by omega) (by simp only [ac_kp_len]; exact hq) (by simp only [ac_kp_ran]; omega) hd1 (by decide) (by decide) (sel_do (a := 10) (by decide) (by decide) hk hb2 he2)) ?_
  rintro r' h' ⟨rfl, rfl⟩
  have hd2 := mi_set_at (c := dc (nI k) w1 w2 v2_ c2_ rs) hd1
  refine w_iadd mi_a10_137 ?_
  refine w_aload_n mi_a10_138 rfl ?_
  refine w_aload_n mi_a10_139 rfl ?_
  refine w_bipushv (v := 63) mi_a10_140 (by decide) ?_
  refine w_iload_n mi_a10_142 rfl ?_
  refine w_iload mi_a10_143 rfl ?_
  refine w_callV mi_a10_145 rfl rfl 4 ⟨rfl, rfl⟩ ⟨Nat.le_of_ble_eq_true rfl, Nat.le_of_ble_eq_true rfl⟩ rfl rfl rfl rfl (H _ _ _ _ _ _ _ _ _ _ _ _ _ _ _ _ _ _ _ _ _ _ _ (by omega) hk he3 (by omega) (by simp only [ac_kp_len]; exact hq) (by simp only [ac_kp_ran]; omega) hd2) ?_
  rintro r' h' ⟨rfl, rfl⟩
  have hd3 := mi_set_at (c := dc (nI k) w1 w2 v3_ c3_ rs) hd2
  refine w_iadd mi_a10_148 ?_
  exact w_ireturn mi_a10_149 rfl ⟨rfl, by simp only [ac_kp_app, List.set_set]⟩
theorem bd_70 {f : Nat} (H : rn_ok f) {D : Nat} {n m tc pu stt : Int32} {q : List Int32 × Nat} {dv tk : List (Option Nat)} {dyn : mi_H} {j dp k : Nat} {x v c r v2 c2 : Int32} {w1 w2 : Value} {rs : List Value} (hD : 3 * f + 5 ≤ D) (hk : k < 11) (he : ac_ev (f + 1) (nI k) 70 x v c = some (r, v2, c2)) (hdp : dp + f ≤ 41) (hq : q.1.length = 64) (hn : q.2 + (ac_trs (ac_tr f (nI k)) (nI k) 70 [1002, 1, 1003, 1009, 1002, 7, 1005, 1000, 1003]).length < 2 ^ 31) (hj : dyn[j]? = some (dc (nI k) w1 w2 v c rs)) : mi_WC D 10 [.ref 1, .ref (j + 6), .int 70, .int x, .int (nI dp)] (kh n m tc pu stt q dv tk dyn) (fun r' h' => r' = some (.int r) ∧ h' = kh n m tc pu stt (ac_kp (ac_trs (ac_tr f (nI k)) (nI k) 70 [1002, 1, 1003, 1009, 1002, 7, 1005, 1000, 1003]) q) dv tk (dyn.set j (dc (nI k) w1 w2 v2 c2 rs))) := by
  obtain ⟨D, rfl⟩ : ∃ D', D = D' + 1 := ⟨D - 1, by omega⟩
  have h := ac_ev_tk (ts := [1002, 1, 1003, 1009, 1002, 7, 1005, 1000, 1003]) (by decide +kernel) he
  replace h := ac_x_C h
  replace h := ac_x_n 1 h (by decide) (by decide)
  replace h := ac_x_add h
  replace h := ac_x_tc h
  replace h := ac_x_C h
  replace h := ac_x_n 7 h (by decide) (by decide)
  replace h := ac_x_mul h
  replace h := ac_x_X h
  replace h := ac_x_add h
  have hr := ac_x_nil h
  simp only [Prod.mk.injEq, List.cons.injEq, and_true] at hr
  obtain ⟨e1, e2, e3⟩ := hr
  subst e1; subst e2; subst e3
  rw [ac_trs_s (by decide), ac_trs_s (by decide), ac_trs_s (by decide), ac_trs_s (by decide), ac_trs_s (by decide), ac_trs_s (by decide), ac_trs_s (by decide), ac_trs_s (by decide), ac_trs_s (by decide)] at hn ⊢
  simp only [ac_trs, List.append_nil, List.length_append] at hn ⊢
  refine mi_WC.of (X := mi_m10) rfl (Nat.le_of_ble_eq_true rfl) ?_
  refine w_iload_n mi_a10_0 rfl ?_
  refine w_tswIn (off := 149) mi_a10_1 (by decide) (by decide) 150 (by decide) ?_
  refine w_aload_n mi_a10_150 rfl ?_
  refine w_dup mi_a10_151 rfl ?_
  refine w_get mi_a10_152 rfl hj rfl ?_
  refine w_iconstv (v := 1) mi_a10_155 (by decide) ?_
  refine w_iadd mi_a10_156 ?_
  refine w_put mi_a10_157 rfl hj (Nat.le_of_ble_eq_true rfl) rfl ?_
  refine w_aload_n mi_a10_160 rfl ?_
  refine w_get mi_a10_161 rfl (mi_set_at hj) rfl ?_
  refine w_bipushv (v := 7) mi_a10_164 (by decide) ?_
  refine w_imul mi_a10_166 ?_
  refine w_iload_n mi_a10_167 rfl ?_
  refine w_iadd mi_a10_168 ?_
  exact w_ireturn mi_a10_169 rfl ⟨rfl, rfl⟩
theorem bd_100 {f : Nat} (H : rn_ok f) {D : Nat} {n m tc pu stt : Int32} {q : List Int32 × Nat} {dv tk : List (Option Nat)} {dyn : mi_H} {j dp k : Nat} {x v c r v2 c2 : Int32} {w1 w2 : Value} {rs : List Value} (hD : 3 * f + 5 ≤ D) (hk : k < 11) (he : ac_ev (f + 1) (nI k) 100 x v c = some (r, v2, c2)) (hdp : dp + f ≤ 41) (hq : q.1.length = 64) (hn : q.2 + (ac_trs (ac_tr f (nI k)) (nI k) 100 [1001, 1000, 1003]).length < 2 ^ 31) (hj : dyn[j]? = some (dc (nI k) w1 w2 v c rs)) : mi_WC D 11 [.ref 1, .ref (j + 6), .int 100, .int x, .int (nI dp)] (kh n m tc pu stt q dv tk dyn) (fun r' h' => r' = some (.int r) ∧ h' = kh n m tc pu stt (ac_kp (ac_trs (ac_tr f (nI k)) (nI k) 100 [1001, 1000, 1003]) q) dv tk (dyn.set j (dc (nI k) w1 w2 v2 c2 rs))) := by
  obtain ⟨D, rfl⟩ : ∃ D', D = D' + 1 := ⟨D - 1, by omega⟩
  have h := ac_ev_tk (ts := [1001, 1000, 1003]) (by decide +kernel) he
  replace h := ac_x_V h
  replace h := ac_x_X h
  replace h := ac_x_add h
  have hr := ac_x_nil h
  simp only [Prod.mk.injEq, List.cons.injEq, and_true] at hr
  obtain ⟨e1, e2, e3⟩ := hr
  subst e1; subst e2; subst e3
  rw [ac_trs_s (by decide), ac_trs_s (by decide), ac_trs_s (by decide)] at hn ⊢
  simp only [ac_trs, List.append_nil, List.length_append] at hn ⊢
  refine mi_WC.of (X := mi_m11) rfl (Nat.le_of_ble_eq_true rfl) ?_
  refine w_iload_n mi_a11_0 rfl ?_
  refine w_lsw (off := 75) mi_a11_1 (by decide) (by decide) 76 (by decide) ?_
  refine w_aload_n mi_a11_76 rfl ?_
  refine w_get mi_a11_77 rfl hj rfl ?_
  refine w_iload_n mi_a11_80 rfl ?_
  refine w_iadd mi_a11_81 ?_
  exact w_ireturn mi_a11_82 rfl ⟨rfl, by rw [mi_set_same hj]; rfl⟩
theorem bd_101 {f : Nat} (H : rn_ok f) {D : Nat} {n m tc pu stt : Int32} {q : List Int32 × Nat} {dv tk : List (Option Nat)} {dyn : mi_H} {j dp k : Nat} {x v c r v2 c2 : Int32} {w1 w2 : Value} {rs : List Value} (hD : 3 * f + 5 ≤ D) (hk : k < 11) (he : ac_ev (f + 1) (nI k) 101 x v c = some (r, v2, c2)) (hdp : dp + f ≤ 41) (hq : q.1.length = 64) (hn : q.2 + (ac_trs (ac_tr f (nI k)) (nI k) 101 [1000, 2, 1003, 1209, 1, 1003]).length < 2 ^ 31) (hj : dyn[j]? = some (dc (nI k) w1 w2 v c rs)) : mi_WC D 11 [.ref 1, .ref (j + 6), .int 101, .int x, .int (nI dp)] (kh n m tc pu stt q dv tk dyn) (fun r' h' => r' = some (.int r) ∧ h' = kh n m tc pu stt (ac_kp (ac_trs (ac_tr f (nI k)) (nI k) 101 [1000, 2, 1003, 1209, 1, 1003]) q) dv tk (dyn.set j (dc (nI k) w1 w2 v2 c2 rs))) := by
  obtain ⟨D, rfl⟩ : ∃ D', D = D' + 1 := ⟨D - 1, by omega⟩
  have h := ac_ev_tk (ts := [1000, 2, 1003, 1209, 1, 1003]) (by decide +kernel) he
  replace h := ac_x_X h
  replace h := ac_x_n 2 h (by decide) (by decide)
  replace h := ac_x_add h
  obtain ⟨b1, z1, v1_, c1_, hb1, he1, h⟩ := ac_x_call (by decide) h
  have hv1 : b1 = 60 := Option.some.inj (hb1.symm.trans (show ac_sb (nI k) 101 1209 = some 60 from rfl))
  subst hv1
  replace h := ac_x_n 1 h (by decide) (by decide)
  replace h := ac_x_add h
  have hr := ac_x_nil h
  simp only [Prod.mk.injEq, List.cons.injEq, and_true] at hr
  obtain ⟨e1, e2, e3⟩ := hr
  subst e1; subst e2; subst e3
  rw [ac_trs_s (by decide), ac_trs_s (by decide), ac_trs_s (by decide), ac_trs_c (by decide) hb1, ac_trs_s (by decide), ac_trs_s (by decide)] at hn ⊢
  simp only [ac_trs, List.append_nil, List.length_append] at hn ⊢
  refine mi_WC.of (X := mi_m11) rfl (Nat.le_of_ble_eq_true rfl) ?_
  refine w_iload_n mi_a11_0 rfl ?_
  refine w_lsw (off := 82) mi_a11_1 (by decide) (by decide) 83 (by decide) ?_
  refine w_aload_n mi_a11_83 rfl ?_
  refine w_iconstv (v := 0) mi_a11_84 (by decide) ?_
  refine w_aload_n mi_a11_85 rfl ?_
  refine w_bipushv (v := 9) mi_a11_86 (by decide) ?_
  refine w_iload_n mi_a11_88 rfl ?_
  refine w_iconstv (v := 2) mi_a11_89 (by decide) ?_
  refine w_iadd mi_a11_90 ?_
  refine w_iload mi_a11_91 rfl ?_
  refine w_callV mi_a11_93 rfl rfl 5 ⟨rfl, rfl⟩ ⟨Nat.le_of_ble_eq_true rfl, Nat.le_of_ble_eq_true rfl⟩ rfl rfl rfl rfl (ab_ok (p := 11) H (by omega) hk he1 (by omega) hq (by omega) hj (by decide) (by decide) (by decide) (by decide) (by decide) (by decide) (by decide) (by decide +kernel)) ?_
  rintro r' h' ⟨rfl, rfl⟩
  have hd1 := mi_set_at (c := dc (nI k) w1 w2 v1_ c1_ rs) hj
  refine w_iconstv (v := 1) mi_a11_96 (by decide) ?_
  refine w_iadd mi_a11_97 ?_
  exact w_ireturn mi_a11_98 rfl ⟨rfl, by simp only [ac_kp_app, List.set_set]⟩
theorem bd_110 {f : Nat} (H : rn_ok f) {D : Nat} {n m tc pu stt : Int32} {q : List Int32 × Nat} {dv tk : List (Option Nat)} {dyn : mi_H} {j dp k : Nat} {x v c r v2 c2 : Int32} {w1 w2 : Value} {rs : List Value} (hD : 3 * f + 5 ≤ D) (hk : k < 11) (he : ac_ev (f + 1) (nI k) 110 x v c = some (r, v2, c2)) (hdp : dp + f ≤ 41) (hq : q.1.length = 64) (hn : q.2 + (ac_trs (ac_tr f (nI k)) (nI k) 110 [1000, 1210, 2, 1005, 1000, 2112, 1003]).length < 2 ^ 31) (hj : dyn[j]? = some (dc (nI k) w1 w2 v c rs)) : mi_WC D 11 [.ref 1, .ref (j + 6), .int 110, .int x, .int (nI dp)] (kh n m tc pu stt q dv tk dyn) (fun r' h' => r' = some (.int r) ∧ h' = kh n m tc pu stt (ac_kp (ac_trs (ac_tr f (nI k)) (nI k) 110 [1000, 1210, 2, 1005, 1000, 2112, 1003]) q) dv tk (dyn.set j (dc (nI k) w1 w2 v2 c2 rs))) := by
  obtain ⟨D, rfl⟩ : ∃ D', D = D' + 1 := ⟨D - 1, by omega⟩
  have h := ac_ev_tk (ts := [1000, 1210, 2, 1005, 1000, 2112, 1003]) (by decide +kernel) he
  replace h := ac_x_X h
  obtain ⟨b1, z1, v1_, c1_, hb1, he1, h⟩ := ac_x_call (by decide) h
  have hv1 : b1 = 61 := Option.some.inj (hb1.symm.trans (show ac_sb (nI k) 110 1210 = some 61 from rfl))
  subst hv1
  replace h := ac_x_n 2 h (by decide) (by decide)
  replace h := ac_x_mul h
  replace h := ac_x_X h
  obtain ⟨b2, z2, v2_, c2_, hb2, he2, h⟩ := ac_x_call (by decide) h
  have hv2 : b2 = 112 := Option.some.inj (hb2.symm.trans (show ac_sb (nI k) 110 2112 = some 112 from rfl))
  subst hv2
  replace h := ac_x_add h
  have hr := ac_x_nil h
  simp only [Prod.mk.injEq, List.cons.injEq, and_true] at hr
  obtain ⟨e1, e2, e3⟩ := hr
  subst e1; subst e2; subst e3
  rw [ac_trs_s (by decide), ac_trs_c (by decide) hb1, ac_trs_s (by decide), ac_trs_s (by decide), ac_trs_s (by decide), ac_trs_c (by decide) hb2, ac_trs_s (by decide)] at hn ⊢
  simp only [ac_trs, List.append_nil, List.length_append] at hn ⊢
  refine mi_WC.of (X := mi_m11) rfl (Nat.le_of_ble_eq_true rfl) ?_
  refine w_iload_n mi_a11_0 rfl ?_
  refine w_lsw (off := 98) mi_a11_1 (by decide) (by decide) 99 (by decide) ?_
  refine w_aload_n mi_a11_99 rfl ?_
  refine w_iconstv (v := 1) mi_a11_100 (by decide) ?_
  refine w_aload_n mi_a11_101 rfl ?_
  refine w_bipushv (v := 10) mi_a11_102 (by decide) ?_
  refine w_iload_n mi_a11_104 rfl ?_
  refine w_iload mi_a11_105 rfl ?_
  refine w_callV mi_a11_107 rfl rfl 5 ⟨rfl, rfl⟩ ⟨Nat.le_of_ble_eq_true rfl, Nat.le_of_ble_eq_true rfl⟩ rfl rfl rfl rfl (ab_ok (p := 11) H (by omega) hk he1 (by omega) hq (by omega) hj (by decide) (by decide) (by decide) (by decide) (by decide) (by decide) (by decide) (by decide +kernel)) ?_
  rintro r' h' ⟨rfl, rfl⟩
  have hd1 := mi_set_at (c := dc (nI k) w1 w2 v1_ c1_ rs) hj
  refine w_iconstv (v := 2) mi_a11_110 (by decide) ?_
  refine w_imul mi_a11_111 ?_
  refine w_aload_n mi_a11_112 rfl ?_
  refine w_aload_n mi_a11_113 rfl ?_
  refine w_bipushv (v := 112) mi_a11_114 (by decide) ?_
  refine w_iload_n mi_a11_116 rfl ?_
  refine w_iload mi_a11_117 rfl ?_
  refine w_callV mi_a11_119 rfl rfl 4 ⟨rfl, rfl⟩ ⟨Nat.le_of_ble_eq_true rfl, Nat.le_of_ble_eq_true rfl⟩ rfl rfl rfl rfl (H _ _ _ _ _ _ _ _ _ _ _ _ _ _ _ _ _ _ _ _ _ _ _ (by omega) hk he2 (by omega) (by simp only [ac_kp_len]; exact hq) (by simp only [ac_kp_ran]; omega) hd1) ?_
  rintro r' h' ⟨rfl, rfl⟩
  have hd2 := mi_set_at (c := dc (nI k) w1 w2 v2_ c2_ rs) hd1
  refine w_iadd mi_a11_122 ?_
  exact w_ireturn mi_a11_123 rfl ⟨rfl, by simp only [ac_kp_app, List.set_set]⟩
theorem bd_111 {f : Nat} (H : rn_ok f) {D : Nat} {n m tc pu stt : Int32} {q : List Int32 × Nat} {dv tk : List (Option Nat)} {dyn : mi_H} {j dp k : Nat} {x v c r v2 c2 : Int32} {w1 w2 : Value} {rs : List Value} (hD : 3 * f + 5 ≤ D) (hk : k < 11) (he : ac_ev (f + 1) (nI k) 111 x v c = some (r, v2, c2)) (hdp : dp + f ≤ 41) (hq : q.1.length = 64) (hn : q.2 + (ac_trs (ac_tr f (nI k)) (nI k) 111 [1000, 1328, 1, 1004]).length < 2 ^ 31) (hj : dyn[j]? = some (dc (nI k) w1 w2 v c rs)) : mi_WC D 11 [.ref 1, .ref (j + 6), .int 111, .int x, .int (nI dp)] (kh n m tc pu stt q dv tk dyn) (fun r' h' => r' = some (.int r) ∧ h' = kh n m tc pu stt (ac_kp (ac_trs (ac_tr f (nI k)) (nI k) 111 [1000, 1328, 1, 1004]) q) dv tk (dyn.set j (dc (nI k) w1 w2 v2 c2 rs))) := by
  obtain ⟨D, rfl⟩ : ∃ D', D = D' + 1 := ⟨D - 1, by omega⟩
  have h := ac_ev_tk (ts := [1000, 1328, 1, 1004]) (by decide +kernel) he
  replace h := ac_x_X h
  obtain ⟨b1, z1, v1_, c1_, hb1, he1, h⟩ := ac_x_call (by decide) h
  have hv1 : b1 = 20 := Option.some.inj (hb1.symm.trans (show ac_sb (nI k) 111 1328 = some 20 from rfl))
  subst hv1
  replace h := ac_x_n 1 h (by decide) (by decide)
  replace h := ac_x_sub h
  have hr := ac_x_nil h
  simp only [Prod.mk.injEq, List.cons.injEq, and_true] at hr
  obtain ⟨e1, e2, e3⟩ := hr
  subst e1; subst e2; subst e3
  rw [ac_trs_s (by decide), ac_trs_c (by decide) hb1, ac_trs_s (by decide), ac_trs_s (by decide)] at hn ⊢
  simp only [ac_trs, List.append_nil, List.length_append] at hn ⊢
  refine mi_WC.of (X := mi_m11) rfl (Nat.le_of_ble_eq_true rfl) ?_
  refine w_iload_n mi_a11_0 rfl ?_
  refine w_lsw (off := 123) mi_a11_1 (by decide) (by decide) 124 (by decide) ?_
  refine w_aload_n mi_a11_124 rfl ?_
  refine w_bipushv (v := 14) mi_a11_125 (by decide) ?_
  refine w_aload_n mi_a11_127 rfl ?_
  refine w_iconstv (v := 4) mi_a11_128 (by decide) ?_
  refine w_iload_n mi_a11_129 rfl ?_
  refine w_iload mi_a11_130 rfl ?_
  refine w_callV mi_a11_132 rfl rfl 5 ⟨rfl, rfl⟩ ⟨Nat.le_of_ble_eq_true rfl, Nat.le_of_ble_eq_true rfl⟩ rfl rfl rfl rfl (by_ok H (by omega) hk he1 (by omega) hq (by omega) hj (by decide) (by decide) (by decide) (by decide) (by decide +kernel)) ?_
  rintro r' h' ⟨rfl, rfl⟩
  have hd1 := mi_set_at (c := dc (nI k) w1 w2 v1_ c1_ rs) hj
  refine w_iconstv (v := 1) mi_a11_135 (by decide) ?_
  refine w_isub mi_a11_136 ?_
  exact w_ireturn mi_a11_137 rfl ⟨rfl, by simp only [ac_kp_app, List.set_set]⟩
theorem bd_112 {f : Nat} (H : rn_ok f) {D : Nat} {n m tc pu stt : Int32} {q : List Int32 × Nat} {dv tk : List (Option Nat)} {dyn : mi_H} {j dp k : Nat} {x v c r v2 c2 : Int32} {w1 w2 : Value} {rs : List Value} (hD : 3 * f + 5 ≤ D) (hk : k < 11) (he : ac_ev (f + 1) (nI k) 112 x v c = some (r, v2, c2)) (hdp : dp + f ≤ 41) (hq : q.1.length = 64) (hn : q.2 + (ac_trs (ac_tr f (nI k)) (nI k) 112 [1002, 1000, 1004]).length < 2 ^ 31) (hj : dyn[j]? = some (dc (nI k) w1 w2 v c rs)) : mi_WC D 11 [.ref 1, .ref (j + 6), .int 112, .int x, .int (nI dp)] (kh n m tc pu stt q dv tk dyn) (fun r' h' => r' = some (.int r) ∧ h' = kh n m tc pu stt (ac_kp (ac_trs (ac_tr f (nI k)) (nI k) 112 [1002, 1000, 1004]) q) dv tk (dyn.set j (dc (nI k) w1 w2 v2 c2 rs))) := by
  obtain ⟨D, rfl⟩ : ∃ D', D = D' + 1 := ⟨D - 1, by omega⟩
  have h := ac_ev_tk (ts := [1002, 1000, 1004]) (by decide +kernel) he
  replace h := ac_x_C h
  replace h := ac_x_X h
  replace h := ac_x_sub h
  have hr := ac_x_nil h
  simp only [Prod.mk.injEq, List.cons.injEq, and_true] at hr
  obtain ⟨e1, e2, e3⟩ := hr
  subst e1; subst e2; subst e3
  rw [ac_trs_s (by decide), ac_trs_s (by decide), ac_trs_s (by decide)] at hn ⊢
  simp only [ac_trs, List.append_nil, List.length_append] at hn ⊢
  refine mi_WC.of (X := mi_m11) rfl (Nat.le_of_ble_eq_true rfl) ?_
  refine w_iload_n mi_a11_0 rfl ?_
  refine w_lsw (off := 137) mi_a11_1 (by decide) (by decide) 138 (by decide) ?_
  refine w_aload_n mi_a11_138 rfl ?_
  refine w_get mi_a11_139 rfl hj rfl ?_
  refine w_iload_n mi_a11_142 rfl ?_
  refine w_isub mi_a11_143 ?_
  exact w_ireturn mi_a11_144 rfl ⟨rfl, by rw [mi_set_same hj]; rfl⟩
theorem bd_120 {f : Nat} (H : rn_ok f) {D : Nat} {n m tc pu stt : Int32} {q : List Int32 × Nat} {dv tk : List (Option Nat)} {dyn : mi_H} {j dp k : Nat} {x v c r v2 c2 : Int32} {w1 w2 : Value} {rs : List Value} (hD : 3 * f + 5 ≤ D) (hk : k < 11) (he : ac_ev (f + 1) (nI k) 120 x v c = some (r, v2, c2)) (hdp : dp + f ≤ 41) (hq : q.1.length = 64) (hn : q.2 + (ac_trs (ac_tr f (nI k)) (nI k) 120 [1000, 1105, 3, 1005, 1001, 1003]).length < 2 ^ 31) (hj : dyn[j]? = some (dc (nI k) w1 w2 v c rs)) : mi_WC D 11 [.ref 1, .ref (j + 6), .int 120, .int x, .int (nI dp)] (kh n m tc pu stt q dv tk dyn) (fun r' h' => r' = some (.int r) ∧ h' = kh n m tc pu stt (ac_kp (ac_trs (ac_tr f (nI k)) (nI k) 120 [1000, 1105, 3, 1005, 1001, 1003]) q) dv tk (dyn.set j (dc (nI k) w1 w2 v2 c2 rs))) := by
  obtain ⟨D, rfl⟩ : ∃ D', D = D' + 1 := ⟨D - 1, by omega⟩
  have h := ac_ev_tk (ts := [1000, 1105, 3, 1005, 1001, 1003]) (by decide +kernel) he
  replace h := ac_x_X h
  obtain ⟨b1, z1, v1_, c1_, hb1, he1, h⟩ := ac_x_call (by decide) h
  replace h := ac_x_n 3 h (by decide) (by decide)
  replace h := ac_x_mul h
  replace h := ac_x_V h
  replace h := ac_x_add h
  have hr := ac_x_nil h
  simp only [Prod.mk.injEq, List.cons.injEq, and_true] at hr
  obtain ⟨e1, e2, e3⟩ := hr
  subst e1; subst e2; subst e3
  rw [ac_trs_s (by decide), ac_trs_c (by decide) hb1, ac_trs_s (by decide), ac_trs_s (by decide), ac_trs_s (by decide), ac_trs_s (by decide)] at hn ⊢
  simp only [ac_trs, List.append_nil, List.length_append] at hn ⊢
  refine mi_WC.of (X := mi_m11) rfl (Nat.le_of_ble_eq_true rfl) ?_
  refine w_iload_n mi_a11_0 rfl ?_
  refine w_lsw (off := 144) mi_a11_1 (by decide) (by decide) 145 (by decide) ?_
  refine w_aload_n mi_a11_145 rfl ?_
  refine w_aload_n mi_a11_146 rfl ?_
  refine w_iconstv (v := 5) mi_a11_147 (by decide) ?_
  refine w_iload_n mi_a11_148 rfl ?_
  refine w_iload mi_a11_149 rfl ?_
  refine w_callV mi_a11_151 rfl rfl 4 ⟨rfl, rfl⟩ ⟨Nat.le_of_ble_eq_true rfl, Nat.le_of_ble_eq_true rfl⟩ rfl rfl rfl rfl (an_ok H (by omega) hk he1 (by omega) hq (by omega) hj (by decide) (by decide) (sel_do (a := 5) (by decide) (by decide) hk hb1 he1)) ?_
  rintro r' h' ⟨rfl, rfl⟩
  have hd1 := mi_set_at (c := dc (nI k) w1 w2 v1_ c1_ rs) hj
  refine w_iconstv (v := 3) mi_a11_154 (by decide) ?_
  refine w_imul mi_a11_155 ?_
  refine w_aload_n mi_a11_156 rfl ?_
  refine w_get mi_a11_157 rfl hd1 rfl ?_
  refine w_iadd mi_a11_160 ?_
  exact w_ireturn mi_a11_161 rfl ⟨rfl, by simp only [ac_kp_app, List.set_set]⟩
theorem bd_130 {f : Nat} (H : rn_ok f) {D : Nat} {n m tc pu stt : Int32} {q : List Int32 × Nat} {dv tk : List (Option Nat)} {dyn : mi_H} {j dp k : Nat} {x v c r v2 c2 : Int32} {w1 w2 : Value} {rs : List Value} (hD : 3 * f + 5 ≤ D) (hk : k < 11) (he : ac_ev (f + 1) (nI k) 130 x v c = some (r, v2, c2)) (hdp : dp + f ≤ 41) (hq : q.1.length = 64) (hn : q.2 + (ac_trs (ac_tr f (nI k)) (nI k) 130 [1000, 1200, 3, 1005]).length < 2 ^ 31) (hj : dyn[j]? = some (dc (nI k) w1 w2 v c rs)) : mi_WC D 11 [.ref 1, .ref (j + 6), .int 130, .int x, .int (nI dp)] (kh n m tc pu stt q dv tk dyn) (fun r' h' => r' = some (.int r) ∧ h' = kh n m tc pu stt (ac_kp (ac_trs (ac_tr f (nI k)) (nI k) 130 [1000, 1200, 3, 1005]) q) dv tk (dyn.set j (dc (nI k) w1 w2 v2 c2 rs))) := by
  obtain ⟨D, rfl⟩ : ∃ D', D = D' + 1 := ⟨D - 1, by omega⟩
  have h := ac_ev_tk (ts := [1000, 1200, 3, 1005]) (by decide +kernel) he
  replace h := ac_x_X h
  obtain ⟨b1, z1, v1_, c1_, hb1, he1, h⟩ := ac_x_call (by decide) h
  have hv1 : b1 = 100 := Option.some.inj (hb1.symm.trans (show ac_sb (nI k) 130 1200 = some 100 from rfl))
  subst hv1
  replace h := ac_x_n 3 h (by decide) (by decide)
  replace h := ac_x_mul h
  have hr := ac_x_nil h
  simp only [Prod.mk.injEq, List.cons.injEq, and_true] at hr
  obtain ⟨e1, e2, e3⟩ := hr
  subst e1; subst e2; subst e3
  rw [ac_trs_s (by decide), ac_trs_c (by decide) hb1, ac_trs_s (by decide), ac_trs_s (by decide)] at hn ⊢
  simp only [ac_trs, List.append_nil, List.length_append] at hn ⊢
  refine mi_WC.of (X := mi_m11) rfl (Nat.le_of_ble_eq_true rfl) ?_
  refine w_iload_n mi_a11_0 rfl ?_
  refine w_lsw (off := 161) mi_a11_1 (by decide) (by decide) 162 (by decide) ?_
  refine w_aload_n mi_a11_162 rfl ?_
  refine w_iconstv (v := 3) mi_a11_163 (by decide) ?_
  refine w_aload_n mi_a11_164 rfl ?_
  refine w_iconstv (v := 0) mi_a11_165 (by decide) ?_
  refine w_iload_n mi_a11_166 rfl ?_
  refine w_iload mi_a11_167 rfl ?_
  refine w_callV mi_a11_169 rfl rfl 5 ⟨rfl, rfl⟩ ⟨Nat.le_of_ble_eq_true rfl, Nat.le_of_ble_eq_true rfl⟩ rfl rfl rfl rfl (ab_ok (p := 0) H (by omega) hk he1 (by omega) hq (by omega) hj (by decide) (by decide) (by decide) (by decide) (by decide) (by decide) (by decide) (by decide +kernel)) ?_
  rintro r' h' ⟨rfl, rfl⟩
  have hd1 := mi_set_at (c := dc (nI k) w1 w2 v1_ c1_ rs) hj
  refine w_iconstv (v := 3) mi_a11_172 (by decide) ?_
  refine w_imul mi_a11_173 ?_
  exact w_ireturn mi_a11_174 rfl ⟨rfl, by simp only [ac_kp_app, List.set_set]⟩
theorem bd_131 {f : Nat} (H : rn_ok f) {D : Nat} {n m tc pu stt : Int32} {q : List Int32 × Nat} {dv tk : List (Option Nat)} {dyn : mi_H} {j dp k : Nat} {x v c r v2 c2 : Int32} {w1 w2 : Value} {rs : List Value} (hD : 3 * f + 5 ≤ D) (hk : k < 11) (he : ac_ev (f + 1) (nI k) 131 x v c = some (r, v2, c2)) (hdp : dp + f ≤ 41) (hq : q.1.length = 64) (hn : q.2 + (ac_trs (ac_tr f (nI k)) (nI k) 131 [1000, 1, 1003, 1201, 5, 1003]).length < 2 ^ 31) (hj : dyn[j]? = some (dc (nI k) w1 w2 v c rs)) : mi_WC D 11 [.ref 1, .ref (j + 6), .int 131, .int x, .int (nI dp)] (kh n m tc pu stt q dv tk dyn) (fun r' h' => r' = some (.int r) ∧ h' = kh n m tc pu stt (ac_kp (ac_trs (ac_tr f (nI k)) (nI k) 131 [1000, 1, 1003, 1201, 5, 1003]) q) dv tk (dyn.set j (dc (nI k) w1 w2 v2 c2 rs))) := by
  obtain ⟨D, rfl⟩ : ∃ D', D = D' + 1 := ⟨D - 1, by omega⟩
  have h := ac_ev_tk (ts := [1000, 1, 1003, 1201, 5, 1003]) (by decide +kernel) he
  replace h := ac_x_X h
  replace h := ac_x_n 1 h (by decide) (by decide)
  replace h := ac_x_add h
  obtain ⟨b1, z1, v1_, c1_, hb1, he1, h⟩ := ac_x_call (by decide) h
  have hv1 : b1 = 10 := Option.some.inj (hb1.symm.trans (show ac_sb (nI k) 131 1201 = some 10 from rfl))
  subst hv1
  replace h := ac_x_n 5 h (by decide) (by decide)
  replace h := ac_x_add h
  have hr := ac_x_nil h
  simp only [Prod.mk.injEq, List.cons.injEq, and_true] at hr
  obtain ⟨e1, e2, e3⟩ := hr
  subst e1; subst e2; subst e3
  rw [ac_trs_s (by decide), ac_trs_s (by decide), ac_trs_s (by decide), ac_trs_c (by decide) hb1, ac_trs_s (by decide), ac_trs_s (by decide)] at hn ⊢
  simp only [ac_trs, List.append_nil, List.length_append] at hn ⊢
  refine mi_WC.of (X := mi_m11) rfl (Nat.le_of_ble_eq_true rfl) ?_
  refine w_iload_n mi_a11_0 rfl ?_
  refine w_lsw (off := 174) mi_a11_1 (by decide) (by decide) 175 (by decide) ?_
  refine w_aload_n mi_a11_175 rfl ?_
  refine w_iconstv (v := 3) mi_a11_176 (by decide) ?_
  refine w_aload_n mi_a11_177 rfl ?_
  refine w_iconstv (v := 1) mi_a11_178 (by decide) ?_
  refine w_iload_n mi_a11_179 rfl ?_
  refine w_iconstv (v := 1) mi_a11_180 (by decide) ?_
  refine w_iadd mi_a11_181 ?_
  refine w_iload mi_a11_182 rfl ?_
  refine w_callV mi_a11_184 rfl rfl 5 ⟨rfl, rfl⟩ ⟨Nat.le_of_ble_eq_true rfl, Nat.le_of_ble_eq_true rfl⟩ rfl rfl rfl rfl (ab_ok (p := 0) H (by omega) hk he1 (by omega) hq (by omega) hj (by decide) (by decide) (by decide) (by decide) (by decide) (by decide) (by decide) (by decide +kernel)) ?_
  rintro r' h' ⟨rfl, rfl⟩
  have hd1 := mi_set_at (c := dc (nI k) w1 w2 v1_ c1_ rs) hj
  refine w_iconstv (v := 5) mi_a11_187 (by decide) ?_
  refine w_iadd mi_a11_188 ?_
  exact w_ireturn mi_a11_189 rfl ⟨rfl, by simp only [ac_kp_app, List.set_set]⟩
theorem bd_140 {f : Nat} (H : rn_ok f) {D : Nat} {n m tc pu stt : Int32} {q : List Int32 × Nat} {dv tk : List (Option Nat)} {dyn : mi_H} {j dp k : Nat} {x v c r v2 c2 : Int32} {w1 w2 : Value} {rs : List Value} (hD : 3 * f + 5 ≤ D) (hk : k < 11) (he : ac_ev (f + 1) (nI k) 140 x v c = some (r, v2, c2)) (hdp : dp + f ≤ 41) (hq : q.1.length = 64) (hn : q.2 + (ac_trs (ac_tr f (nI k)) (nI k) 140 [1001, 1000, 1004]).length < 2 ^ 31) (hj : dyn[j]? = some (dc (nI k) w1 w2 v c rs)) : mi_WC D 12 [.ref 1, .ref (j + 6), .int 140, .int x, .int (nI dp)] (kh n m tc pu stt q dv tk dyn) (fun r' h' => r' = some (.int r) ∧ h' = kh n m tc pu stt (ac_kp (ac_trs (ac_tr f (nI k)) (nI k) 140 [1001, 1000, 1004]) q) dv tk (dyn.set j (dc (nI k) w1 w2 v2 c2 rs))) := by
  obtain ⟨D, rfl⟩ : ∃ D', D = D' + 1 := ⟨D - 1, by omega⟩
  have h := ac_ev_tk (ts := [1001, 1000, 1004]) (by decide +kernel) he
  replace h := ac_x_V h
  replace h := ac_x_X h
  replace h := ac_x_sub h
  have hr := ac_x_nil h
  simp only [Prod.mk.injEq, List.cons.injEq, and_true] at hr
  obtain ⟨e1, e2, e3⟩ := hr
  subst e1; subst e2; subst e3
  rw [ac_trs_s (by decide), ac_trs_s (by decide), ac_trs_s (by decide)] at hn ⊢
  simp only [ac_trs, List.append_nil, List.length_append] at hn ⊢
  refine mi_WC.of (X := mi_m12) rfl (Nat.le_of_ble_eq_true rfl) ?_
  refine w_iload_n mi_a12_0 rfl ?_
  refine w_tswIn (off := 111) mi_a12_1 (by decide) (by decide) 112 (by decide) ?_
  refine w_aload_n mi_a12_112 rfl ?_
  refine w_get mi_a12_113 rfl hj rfl ?_
  refine w_iload_n mi_a12_116 rfl ?_
  refine w_isub mi_a12_117 ?_
  exact w_ireturn mi_a12_118 rfl ⟨rfl, by rw [mi_set_same hj]; rfl⟩
theorem bd_141 {f : Nat} (H : rn_ok f) {D : Nat} {n m tc pu stt : Int32} {q : List Int32 × Nat} {dv tk : List (Option Nat)} {dyn : mi_H} {j dp k : Nat} {x v c r v2 c2 : Int32} {w1 w2 : Value} {rs : List Value} (hD : 3 * f + 5 ≤ D) (hk : k < 11) (he : ac_ev (f + 1) (nI k) 141 x v c = some (r, v2, c2)) (hdp : dp + f ≤ 41) (hq : q.1.length = 64) (hn : q.2 + (ac_trs (ac_tr f (nI k)) (nI k) 141 [1000, 1202, 1, 1314, 1004]).length < 2 ^ 31) (hj : dyn[j]? = some (dc (nI k) w1 w2 v c rs)) : mi_WC D 12 [.ref 1, .ref (j + 6), .int 141, .int x, .int (nI dp)] (kh n m tc pu stt q dv tk dyn) (fun r' h' => r' = some (.int r) ∧ h' = kh n m tc pu stt (ac_kp (ac_trs (ac_tr f (nI k)) (nI k) 141 [1000, 1202, 1, 1314, 1004]) q) dv tk (dyn.set j (dc (nI k) w1 w2 v2 c2 rs))) := by
  obtain ⟨D, rfl⟩ : ∃ D', D = D' + 1 := ⟨D - 1, by omega⟩
  have h := ac_ev_tk (ts := [1000, 1202, 1, 1314, 1004]) (by decide +kernel) he
  replace h := ac_x_X h
  obtain ⟨b1, z1, v1_, c1_, hb1, he1, h⟩ := ac_x_call (by decide) h
  have hv1 : b1 = 21 := Option.some.inj (hb1.symm.trans (show ac_sb (nI k) 141 1202 = some 21 from rfl))
  subst hv1
  replace h := ac_x_n 1 h (by decide) (by decide)
  obtain ⟨b2, z2, v2_, c2_, hb2, he2, h⟩ := ac_x_call (by decide) h
  have hv2 : b2 = 11 := Option.some.inj (hb2.symm.trans (show ac_sb (nI k) 141 1314 = some 11 from rfl))
  subst hv2
  replace h := ac_x_sub h
  have hr := ac_x_nil h
  simp only [Prod.mk.injEq, List.cons.injEq, and_true] at hr
  obtain ⟨e1, e2, e3⟩ := hr
  subst e1; subst e2; subst e3
  rw [ac_trs_s (by decide), ac_trs_c (by decide) hb1, ac_trs_s (by decide), ac_trs_c (by decide) hb2, ac_trs_s (by decide)] at hn ⊢
  simp only [ac_trs, List.append_nil, List.length_append] at hn ⊢
  refine mi_WC.of (X := mi_m12) rfl (Nat.le_of_ble_eq_true rfl) ?_
  refine w_iload_n mi_a12_0 rfl ?_
  refine w_tswIn (off := 118) mi_a12_1 (by decide) (by decide) 119 (by decide) ?_
  refine w_aload_n mi_a12_119 rfl ?_
  refine w_iconstv (v := 4) mi_a12_120 (by decide) ?_
  refine w_aload_n mi_a12_121 rfl ?_
  refine w_iconstv (v := 2) mi_a12_122 (by decide) ?_
  refine w_iload_n mi_a12_123 rfl ?_
  refine w_iload mi_a12_124 rfl ?_
  refine w_callV mi_a12_126 rfl rfl 5 ⟨rfl, rfl⟩ ⟨Nat.le_of_ble_eq_true rfl, Nat.le_of_ble_eq_true rfl⟩ rfl rfl rfl rfl (ab_ok (p := 1) H (by omega) hk he1 (by omega) hq (by omega) hj (by decide) (by decide) (by decide) (by decide) (by decide) (by decide) (by decide) (by decide +kernel)) ?_
  rintro r' h' ⟨rfl, rfl⟩
  have hd1 := mi_set_at (c := dc (nI k) w1 w2 v1_ c1_ rs) hj
  refine w_aload_n mi_a12_129 rfl ?_
  refine w_bipushv (v := 13) mi_a12_130 (by decide) ?_
  refine w_aload_n mi_a12_132 rfl ?_
  refine w_iconstv (v := 2) mi_a12_133 (by decide) ?_
  refine w_iconstv (v := 1) mi_a12_134 (by decide) ?_
  refine w_iload mi_a12_135 rfl ?_
  refine w_callV mi_a12_137 rfl rfl 5 ⟨rfl, rfl⟩ ⟨Nat.le_of_ble_eq_true rfl, Nat.le_of_ble_eq_true rfl⟩ rfl rfl rfl rfl (by_ok H (by omega) hk he2 (by omega) (by simp only [ac_kp_len]; exact hq) (by simp only [ac_kp_ran]; omega) hd1 (by decide) (by decide) (by decide) (by decide) (by decide +kernel)) ?_
  rintro r' h' ⟨rfl, rfl⟩
  have hd2 := mi_set_at (c := dc (nI k) w1 w2 v2_ c2_ rs) hd1
  refine w_isub mi_a12_140 ?_
  exact w_ireturn mi_a12_141 rfl ⟨rfl, by simp only [ac_kp_app, List.set_set]⟩
theorem bd_142 {f : Nat} (H : rn_ok f) {D : Nat} {n m tc pu stt : Int32} {q : List Int32 × Nat} {dv tk : List (Option Nat)} {dyn : mi_H} {j dp k : Nat} {x v c r v2 c2 : Int32} {w1 w2 : Value} {rs : List Value} (hD : 3 * f + 5 ≤ D) (hk : k < 11) (he : ac_ev (f + 1) (nI k) 142 x v c = some (r, v2, c2)) (hdp : dp + f ≤ 41) (hq : q.1.length = 64) (hn : q.2 + (ac_trs (ac_tr f (nI k)) (nI k) 142 [1000, 1, 1003, 1210, 4, 1003]).length < 2 ^ 31) (hj : dyn[j]? = some (dc (nI k) w1 w2 v c rs)) : mi_WC D 12 [.ref 1, .ref (j + 6), .int 142, .int x, .int (nI dp)] (kh n m tc pu stt q dv tk dyn) (fun r' h' => r' = some (.int r) ∧ h' = kh n m tc pu stt (ac_kp (ac_trs (ac_tr f (nI k)) (nI k) 142 [1000, 1, 1003, 1210, 4, 1003]) q) dv tk (dyn.set j (dc (nI k) w1 w2 v2 c2 rs))) := by
  obtain ⟨D, rfl⟩ : ∃ D', D = D' + 1 := ⟨D - 1, by omega⟩
  have h := ac_ev_tk (ts := [1000, 1, 1003, 1210, 4, 1003]) (by decide +kernel) he
  replace h := ac_x_X h
  replace h := ac_x_n 1 h (by decide) (by decide)
  replace h := ac_x_add h
  obtain ⟨b1, z1, v1_, c1_, hb1, he1, h⟩ := ac_x_call (by decide) h
  have hv1 : b1 = 110 := Option.some.inj (hb1.symm.trans (show ac_sb (nI k) 142 1210 = some 110 from rfl))
  subst hv1
  replace h := ac_x_n 4 h (by decide) (by decide)
  replace h := ac_x_add h
  have hr := ac_x_nil h
  simp only [Prod.mk.injEq, List.cons.injEq, and_true] at hr
  obtain ⟨e1, e2, e3⟩ := hr
  subst e1; subst e2; subst e3
  rw [ac_trs_s (by decide), ac_trs_s (by decide), ac_trs_s (by decide), ac_trs_c (by decide) hb1, ac_trs_s (by decide), ac_trs_s (by decide)] at hn ⊢
  simp only [ac_trs, List.append_nil, List.length_append] at hn ⊢
  refine mi_WC.of (X := mi_m12) rfl (Nat.le_of_ble_eq_true rfl) ?_
  refine w_iload_n mi_a12_0 rfl ?_
  refine w_tswIn (off := 141) mi_a12_1 (by decide) (by decide) 142 (by decide) ?_
  refine w_aload_n mi_a12_142 rfl ?_
  refine w_iconstv (v := 4) mi_a12_143 (by decide) ?_
  refine w_aload_n mi_a12_144 rfl ?_
  refine w_bipushv (v := 10) mi_a12_145 (by decide) ?_
  refine w_iload_n mi_a12_147 rfl ?_
  refine w_iconstv (v := 1) mi_a12_148 (by decide) ?_
  refine w_iadd mi_a12_149 ?_
  refine w_iload mi_a12_150 rfl ?_
  refine w_callV mi_a12_152 rfl rfl 5 ⟨rfl, rfl⟩ ⟨Nat.le_of_ble_eq_true rfl, Nat.le_of_ble_eq_true rfl⟩ rfl rfl rfl rfl (ab_ok (p := 1) H (by omega) hk he1 (by omega) hq (by omega) hj (by decide) (by decide) (by decide) (by decide) (by decide) (by decide) (by decide) (by decide +kernel)) ?_
  rintro r' h' ⟨rfl, rfl⟩
  have hd1 := mi_set_at (c := dc (nI k) w1 w2 v1_ c1_ rs) hj
  refine w_iconstv (v := 4) mi_a12_155 (by decide) ?_
  refine w_iadd mi_a12_156 ?_
  exact w_ireturn mi_a12_157 rfl ⟨rfl, by simp only [ac_kp_app, List.set_set]⟩
theorem bd_150 {f : Nat} (H : rn_ok f) {D : Nat} {n m tc pu stt : Int32} {q : List Int32 × Nat} {dv tk : List (Option Nat)} {dyn : mi_H} {j dp k : Nat} {x v c r v2 c2 : Int32} {w1 w2 : Value} {rs : List Value} (hD : 3 * f + 5 ≤ D) (hk : k < 11) (he : ac_ev (f + 1) (nI k) 150 x v c = some (r, v2, c2)) (hdp : dp + f ≤ 41) (hq : q.1.length = 64) (hn : q.2 + (ac_trs (ac_tr f (nI k)) (nI k) 150 [1000, 1105, 1001, 1003]).length < 2 ^ 31) (hj : dyn[j]? = some (dc (nI k) w1 w2 v c rs)) : mi_WC D 12 [.ref 1, .ref (j + 6), .int 150, .int x, .int (nI dp)] (kh n m tc pu stt q dv tk dyn) (fun r' h' => r' = some (.int r) ∧ h' = kh n m tc pu stt (ac_kp (ac_trs (ac_tr f (nI k)) (nI k) 150 [1000, 1105, 1001, 1003]) q) dv tk (dyn.set j (dc (nI k) w1 w2 v2 c2 rs))) := by
  obtain ⟨D, rfl⟩ : ∃ D', D = D' + 1 := ⟨D - 1, by omega⟩
  have h := ac_ev_tk (ts := [1000, 1105, 1001, 1003]) (by decide +kernel) he
  replace h := ac_x_X h
  obtain ⟨b1, z1, v1_, c1_, hb1, he1, h⟩ := ac_x_call (by decide) h
  replace h := ac_x_V h
  replace h := ac_x_add h
  have hr := ac_x_nil h
  simp only [Prod.mk.injEq, List.cons.injEq, and_true] at hr
  obtain ⟨e1, e2, e3⟩ := hr
  subst e1; subst e2; subst e3
  rw [ac_trs_s (by decide), ac_trs_c (by decide) hb1, ac_trs_s (by decide), ac_trs_s (by decide)] at hn ⊢
  simp only [ac_trs, List.append_nil, List.length_append] at hn ⊢
  refine mi_WC.of (X := mi_m12) rfl (Nat.le_of_ble_eq_true rfl) ?_
  refine w_iload_n mi_a12_0 rfl ?_
  refine w_tswIn (off := 157) mi_a12_1 (by decide) (by decide) 158 (by decide) ?_
  refine w_aload_n mi_a12_158 rfl ?_
  refine w_aload_n mi_a12_159 rfl ?_
  refine w_iconstv (v := 5) mi_a12_160 (by decide) ?_
  refine w_iload_n mi_a12_161 rfl ?_
  refine w_iload mi_a12_162 rfl ?_
  refine w_callV mi_a12_164 rfl rfl 4 ⟨rfl, rfl⟩ ⟨Nat.le_of_ble_eq_true rfl, Nat.le_of_ble_eq_true rfl⟩ rfl rfl rfl rfl (an_ok H (by omega) hk he1 (by omega) hq (by omega) hj (by decide) (by decide) (sel_do (a := 5) (by decide) (by decide) hk hb1 he1)) ?_
  rintro r' h' ⟨rfl, rfl⟩
  have hd1 := mi_set_at (c := dc (nI k) w1 w2 v1_ c1_ rs) hj
  refine w_aload_n mi_a12_167 rfl ?_
  refine w_get mi_a12_168 rfl hd1 rfl ?_
  refine w_iadd mi_a12_171 ?_
  exact w_ireturn mi_a12_172 rfl ⟨rfl, by simp only [ac_kp_app, List.set_set]⟩
theorem bd_151 {f : Nat} (H : rn_ok f) {D : Nat} {n m tc pu stt : Int32} {q : List Int32 × Nat} {dv tk : List (Option Nat)} {dyn : mi_H} {j dp k : Nat} {x v c r v2 c2 : Int32} {w1 w2 : Value} {rs : List Value} (hD : 3 * f + 5 ≤ D) (hk : k < 11) (he : ac_ev (f + 1) (nI k) 151 x v c = some (r, v2, c2)) (hdp : dp + f ≤ 41) (hq : q.1.length = 64) (hn : q.2 + (ac_trs (ac_tr f (nI k)) (nI k) 151 [1000, 1209, 0, 1102, 1006]).length < 2 ^ 31) (hj : dyn[j]? = some (dc (nI k) w1 w2 v c rs)) : mi_WC D 12 [.ref 1, .ref (j + 6), .int 151, .int x, .int (nI dp)] (kh n m tc pu stt q dv tk dyn) (fun r' h' => r' = some (.int r) ∧ h' = kh n m tc pu stt (ac_kp (ac_trs (ac_tr f (nI k)) (nI k) 151 [1000, 1209, 0, 1102, 1006]) q) dv tk (dyn.set j (dc (nI k) w1 w2 v2 c2 rs))) := by
  obtain ⟨D, rfl⟩ : ∃ D', D = D' + 1 := ⟨D - 1, by omega⟩
  have h := ac_ev_tk (ts := [1000, 1209, 0, 1102, 1006]) (by decide +kernel) he
  replace h := ac_x_X h
  obtain ⟨b1, z1, v1_, c1_, hb1, he1, h⟩ := ac_x_call (by decide) h
  have hv1 : b1 = 60 := Option.some.inj (hb1.symm.trans (show ac_sb (nI k) 151 1209 = some 60 from rfl))
  subst hv1
  replace h := ac_x_n 0 h (by decide) (by decide)
  obtain ⟨b2, z2, v2_, c2_, hb2, he2, h⟩ := ac_x_call (by decide) h
  replace h := ac_x_xor h
  have hr := ac_x_nil h
  simp only [Prod.mk.injEq, List.cons.injEq, and_true] at hr
  obtain ⟨e1, e2, e3⟩ := hr
  subst e1; subst e2; subst e3
  rw [ac_trs_s (by decide), ac_trs_c (by decide) hb1, ac_trs_s (by decide), ac_trs_c (by decide) hb2, ac_trs_s (by decide)] at hn ⊢
  simp only [ac_trs, List.append_nil, List.length_append] at hn ⊢
  refine mi_WC.of (X := mi_m12) rfl (Nat.le_of_ble_eq_true rfl) ?_
  refine w_iload_n mi_a12_0 rfl ?_
  refine w_tswIn (off := 172) mi_a12_1 (by decide) (by decide) 173 (by decide) ?_
  refine w_aload_n mi_a12_173 rfl ?_
  refine w_iconstv (v := 5) mi_a12_174 (by decide) ?_
  refine w_aload_n mi_a12_175 rfl ?_
  refine w_bipushv (v := 9) mi_a12_176 (by decide) ?_
  refine w_iload_n mi_a12_178 rfl ?_
  refine w_iload mi_a12_179 rfl ?_
  refine w_callV mi_a12_181 rfl rfl 5 ⟨rfl, rfl⟩ ⟨Nat.le_of_ble_eq_true rfl, Nat.le_of_ble_eq_true rfl⟩ rfl rfl rfl rfl (ab_ok (p := 2) H (by omega) hk he1 (by omega) hq (by omega) hj (by decide) (by decide) (by decide) (by decide) (by decide) (by decide) (by decide) (by decide +kernel)) ?_
  rintro r' h' ⟨rfl, rfl⟩
  have hd1 := mi_set_at (c := dc (nI k) w1 w2 v1_ c1_ rs) hj
  refine w_aload_n mi_a12_184 rfl ?_
  refine w_aload_n mi_a12_185 rfl ?_
  refine w_iconstv (v := 2) mi_a12_186 (by decide) ?_
  refine w_iconstv (v := 0) mi_a12_187 (by decide) ?_
  refine w_iload mi_a12_188 rfl ?_
  refine w_callV mi_a12_190 rfl rfl 4 ⟨rfl, rfl⟩ ⟨Nat.le_of_ble_eq_true rfl, Nat.le_of_ble_eq_true rfl⟩ rfl rfl rfl rfl (an_ok H (by omega) hk he2 (by omega) (by simp only [ac_kp_len]; exact hq) (by simp only [ac_kp_ran]; omega) hd1 (by decide) (by decide) (sel_do (a := 2) (by decide) (by decide) hk hb2 he2)) ?_
  rintro r' h' ⟨rfl, rfl⟩
  have hd2 := mi_set_at (c := dc (nI k) w1 w2 v2_ c2_ rs) hd1
  refine w_ixor mi_a12_193 ?_
  exact w_ireturn mi_a12_194 rfl ⟨rfl, by simp only [ac_kp_app, List.set_set]⟩
theorem bd_152 {f : Nat} (H : rn_ok f) {D : Nat} {n m tc pu stt : Int32} {q : List Int32 × Nat} {dv tk : List (Option Nat)} {dyn : mi_H} {j dp k : Nat} {x v c r v2 c2 : Int32} {w1 w2 : Value} {rs : List Value} (hD : 3 * f + 5 ≤ D) (hk : k < 11) (he : ac_ev (f + 1) (nI k) 152 x v c = some (r, v2, c2)) (hdp : dp + f ≤ 41) (hq : q.1.length = 64) (hn : q.2 + (ac_trs (ac_tr f (nI k)) (nI k) 152 [1000, 1340, 1, 1003]).length < 2 ^ 31) (hj : dyn[j]? = some (dc (nI k) w1 w2 v c rs)) : mi_WC D 12 [.ref 1, .ref (j + 6), .int 152, .int x, .int (nI dp)] (kh n m tc pu stt q dv tk dyn) (fun r' h' => r' = some (.int r) ∧ h' = kh n m tc pu stt (ac_kp (ac_trs (ac_tr f (nI k)) (nI k) 152 [1000, 1340, 1, 1003]) q) dv tk (dyn.set j (dc (nI k) w1 w2 v2 c2 rs))) := by
  obtain ⟨D, rfl⟩ : ∃ D', D = D' + 1 := ⟨D - 1, by omega⟩
  have h := ac_ev_tk (ts := [1000, 1340, 1, 1003]) (by decide +kernel) he
  replace h := ac_x_X h
  obtain ⟨b1, z1, v1_, c1_, hb1, he1, h⟩ := ac_x_call (by decide) h
  have hv1 : b1 = 20 := Option.some.inj (hb1.symm.trans (show ac_sb (nI k) 152 1340 = some 20 from rfl))
  subst hv1
  replace h := ac_x_n 1 h (by decide) (by decide)
  replace h := ac_x_add h
  have hr := ac_x_nil h
  simp only [Prod.mk.injEq, List.cons.injEq, and_true] at hr
  obtain ⟨e1, e2, e3⟩ := hr
  subst e1; subst e2; subst e3
  rw [ac_trs_s (by decide), ac_trs_c (by decide) hb1, ac_trs_s (by decide), ac_trs_s (by decide)] at hn ⊢
  simp only [ac_trs, List.append_nil, List.length_append] at hn ⊢
  refine mi_WC.of (X := mi_m12) rfl (Nat.le_of_ble_eq_true rfl) ?_
  refine w_iload_n mi_a12_0 rfl ?_
  refine w_tswIn (off := 194) mi_a12_1 (by decide) (by decide) 195 (by decide) ?_
  refine w_aload_n mi_a12_195 rfl ?_
  refine w_bipushv (v := 15) mi_a12_196 (by decide) ?_
  refine w_aload_n mi_a12_198 rfl ?_
  refine w_iconstv (v := 4) mi_a12_199 (by decide) ?_
  refine w_iload_n mi_a12_200 rfl ?_
  refine w_iload mi_a12_201 rfl ?_
  refine w_callV mi_a12_203 rfl rfl 5 ⟨rfl, rfl⟩ ⟨Nat.le_of_ble_eq_true rfl, Nat.le_of_ble_eq_true rfl⟩ rfl rfl rfl rfl (by_ok H (by omega) hk he1 (by omega) hq (by omega) hj (by decide) (by decide) (by decide) (by decide) (by decide +kernel)) ?_
  rintro r' h' ⟨rfl, rfl⟩
  have hd1 := mi_set_at (c := dc (nI k) w1 w2 v1_ c1_ rs) hj
  refine w_iconstv (v := 1) mi_a12_206 (by decide) ?_
  refine w_iadd mi_a12_207 ?_
  exact w_ireturn mi_a12_208 rfl ⟨rfl, by simp only [ac_kp_app, List.set_set]⟩
theorem bd_160 {f : Nat} (H : rn_ok f) {D : Nat} {n m tc pu stt : Int32} {q : List Int32 × Nat} {dv tk : List (Option Nat)} {dyn : mi_H} {j dp k : Nat} {x v c r v2 c2 : Int32} {w1 w2 : Value} {rs : List Value} (hD : 3 * f + 5 ≤ D) (hk : k < 11) (he : ac_ev (f + 1) (nI k) 160 x v c = some (r, v2, c2)) (hdp : dp + f ≤ 41) (hq : q.1.length = 64) (hn : q.2 + (ac_trs (ac_tr f (nI k)) (nI k) 160 [1000]).length < 2 ^ 31) (hj : dyn[j]? = some (dc (nI k) w1 w2 v c rs)) : mi_WC D 12 [.ref 1, .ref (j + 6), .int 160, .int x, .int (nI dp)] (kh n m tc pu stt q dv tk dyn) (fun r' h' => r' = some (.int r) ∧ h' = kh n m tc pu stt (ac_kp (ac_trs (ac_tr f (nI k)) (nI k) 160 [1000]) q) dv tk (dyn.set j (dc (nI k) w1 w2 v2 c2 rs))) := by
  obtain ⟨D, rfl⟩ : ∃ D', D = D' + 1 := ⟨D - 1, by omega⟩
  have h := ac_ev_tk (ts := [1000]) (by decide +kernel) he
  replace h := ac_x_X h
  have hr := ac_x_nil h
  simp only [Prod.mk.injEq, List.cons.injEq, and_true] at hr
  obtain ⟨e1, e2, e3⟩ := hr
  subst e1; subst e2; subst e3
  rw [ac_trs_s (by decide)] at hn ⊢
  simp only [ac_trs, List.append_nil, List.length_append] at hn ⊢
  refine mi_WC.of (X := mi_m12) rfl (Nat.le_of_ble_eq_true rfl) ?_
  refine w_iload_n mi_a12_0 rfl ?_
  refine w_tswIn (off := 208) mi_a12_1 (by decide) (by decide) 209 (by decide) ?_
  refine w_iload_n mi_a12_209 rfl ?_
  exact w_ireturn mi_a12_210 rfl ⟨rfl, by rw [mi_set_same hj]; rfl⟩
theorem bd_161 {f : Nat} (H : rn_ok f) {D : Nat} {n m tc pu stt : Int32} {q : List Int32 × Nat} {dv tk : List (Option Nat)} {dyn : mi_H} {j dp k : Nat} {x v c r v2 c2 : Int32} {w1 w2 : Value} {rs : List Value} (hD : 3 * f + 5 ≤ D) (hk : k < 11) (he : ac_ev (f + 1) (nI k) 161 x v c = some (r, v2, c2)) (hdp : dp + f ≤ 41) (hq : q.1.length = 64) (hn : q.2 + (ac_trs (ac_tr f (nI k)) (nI k) 161 [1000, 1368, 255, 1007]).length < 2 ^ 31) (hj : dyn[j]? = some (dc (nI k) w1 w2 v c rs)) : mi_WC D 12 [.ref 1, .ref (j + 6), .int 161, .int x, .int (nI dp)] (kh n m tc pu stt q dv tk dyn) (fun r' h' => r' = some (.int r) ∧ h' = kh n m tc pu stt (ac_kp (ac_trs (ac_tr f (nI k)) (nI k) 161 [1000, 1368, 255, 1007]) q) dv tk (dyn.set j (dc (nI k) w1 w2 v2 c2 rs))) := by
  obtain ⟨D, rfl⟩ : ∃ D', D = D' + 1 := ⟨D - 1, by omega⟩
  have h := ac_ev_tk (ts := [1000, 1368, 255, 1007]) (by decide +kernel) he
  replace h := ac_x_X h
  obtain ⟨b1, z1, v1_, c1_, hb1, he1, h⟩ := ac_x_call (by decide) h
  have hv1 : b1 = 51 := Option.some.inj (hb1.symm.trans (show ac_sb (nI k) 161 1368 = some 51 from rfl))
  subst hv1
  replace h := ac_x_n 255 h (by decide) (by decide)
  replace h := ac_x_and h
  have hr := ac_x_nil h
  simp only [Prod.mk.injEq, List.cons.injEq, and_true] at hr
  obtain ⟨e1, e2, e3⟩ := hr
  subst e1; subst e2; subst e3
  rw [ac_trs_s (by decide), ac_trs_c (by decide) hb1, ac_trs_s (by decide), ac_trs_s (by decide)] at hn ⊢
  simp only [ac_trs, List.append_nil, List.length_append] at hn ⊢
  refine mi_WC.of (X := mi_m12) rfl (Nat.le_of_ble_eq_true rfl) ?_
  refine w_iload_n mi_a12_0 rfl ?_
  refine w_tswIn (off := 210) mi_a12_1 (by decide) (by decide) 211 (by decide) ?_
  refine w_aload_n mi_a12_211 rfl ?_
  refine w_bipushv (v := 17) mi_a12_212 (by decide) ?_
  refine w_aload_n mi_a12_214 rfl ?_
  refine w_bipushv (v := 8) mi_a12_215 (by decide) ?_
  refine w_iload_n mi_a12_217 rfl ?_
  refine w_iload mi_a12_218 rfl ?_
  refine w_callV mi_a12_220 rfl rfl 5 ⟨rfl, rfl⟩ ⟨Nat.le_of_ble_eq_true rfl, Nat.le_of_ble_eq_true rfl⟩ rfl rfl rfl rfl (by_ok H (by omega) hk he1 (by omega) hq (by omega) hj (by decide) (by decide) (by decide) (by decide) (by decide +kernel)) ?_
  rintro r' h' ⟨rfl, rfl⟩
  have hd1 := mi_set_at (c := dc (nI k) w1 w2 v1_ c1_ rs) hj
  refine w_sipushv (v := 255) mi_a12_223 (by decide) ?_
  refine w_iand mi_a12_226 ?_
  exact w_ireturn mi_a12_227 rfl ⟨rfl, by simp only [ac_kp_app, List.set_set]⟩
theorem bd_162 {f : Nat} (H : rn_ok f) {D : Nat} {n m tc pu stt : Int32} {q : List Int32 × Nat} {dv tk : List (Option Nat)} {dyn : mi_H} {j dp k : Nat} {x v c r v2 c2 : Int32} {w1 w2 : Value} {rs : List Value} (hD : 3 * f + 5 ≤ D) (hk : k < 11) (he : ac_ev (f + 1) (nI k) 162 x v c = some (r, v2, c2)) (hdp : dp + f ≤ 41) (hq : q.1.length = 64) (hn : q.2 + (ac_trs (ac_tr f (nI k)) (nI k) 162 [1000, 99, 1003]).length < 2 ^ 31) (hj : dyn[j]? = some (dc (nI k) w1 w2 v c rs)) : mi_WC D 12 [.ref 1, .ref (j + 6), .int 162, .int x, .int (nI dp)] (kh n m tc pu stt q dv tk dyn) (fun r' h' => r' = some (.int r) ∧ h' = kh n m tc pu stt (ac_kp (ac_trs (ac_tr f (nI k)) (nI k) 162 [1000, 99, 1003]) q) dv tk (dyn.set j (dc (nI k) w1 w2 v2 c2 rs))) := by
  obtain ⟨D, rfl⟩ : ∃ D', D = D' + 1 := ⟨D - 1, by omega⟩
  have h := ac_ev_tk (ts := [1000, 99, 1003]) (by decide +kernel) he
  replace h := ac_x_X h
  replace h := ac_x_n 99 h (by decide) (by decide)
  replace h := ac_x_add h
  have hr := ac_x_nil h
  simp only [Prod.mk.injEq, List.cons.injEq, and_true] at hr
  obtain ⟨e1, e2, e3⟩ := hr
  subst e1; subst e2; subst e3
  rw [ac_trs_s (by decide), ac_trs_s (by decide), ac_trs_s (by decide)] at hn ⊢
  simp only [ac_trs, List.append_nil, List.length_append] at hn ⊢
  refine mi_WC.of (X := mi_m12) rfl (Nat.le_of_ble_eq_true rfl) ?_
  refine w_iload_n mi_a12_0 rfl ?_
  refine w_tswIn (off := 227) mi_a12_1 (by decide) (by decide) 228 (by decide) ?_
  refine w_iload_n mi_a12_228 rfl ?_
  refine w_bipushv (v := 99) mi_a12_229 (by decide) ?_
  refine w_iadd mi_a12_231 ?_
  exact w_ireturn mi_a12_232 rfl ⟨rfl, by rw [mi_set_same hj]; rfl⟩
theorem bd_163 {f : Nat} (H : rn_ok f) {D : Nat} {n m tc pu stt : Int32} {q : List Int32 × Nat} {dv tk : List (Option Nat)} {dyn : mi_H} {j dp k : Nat} {x v c r v2 c2 : Int32} {w1 w2 : Value} {rs : List Value} (hD : 3 * f + 5 ≤ D) (hk : k < 11) (he : ac_ev (f + 1) (nI k) 163 x v c = some (r, v2, c2)) (hdp : dp + f ≤ 41) (hq : q.1.length = 64) (hn : q.2 + (ac_trs (ac_tr f (nI k)) (nI k) 163 [1000, 2162, 1, 1209, 1003]).length < 2 ^ 31) (hj : dyn[j]? = some (dc (nI k) w1 w2 v c rs)) : mi_WC D 12 [.ref 1, .ref (j + 6), .int 163, .int x, .int (nI dp)] (kh n m tc pu stt q dv tk dyn) (fun r' h' => r' = some (.int r) ∧ h' = kh n m tc pu stt (ac_kp (ac_trs (ac_tr f (nI k)) (nI k) 163 [1000, 2162, 1, 1209, 1003]) q) dv tk (dyn.set j (dc (nI k) w1 w2 v2 c2 rs))) := by
  obtain ⟨D, rfl⟩ : ∃ D', D = D' + 1 := ⟨D - 1, by omega⟩
  have h := ac_ev_tk (ts := [1000, 2162, 1, 1209, 1003]) (by decide +kernel) he
  replace h := ac_x_X h
  obtain ⟨b1, z1, v1_, c1_, hb1, he1, h⟩ := ac_x_call (by decide) h
  have hv1 : b1 = 162 := Option.some.inj (hb1.symm.trans (show ac_sb (nI k) 163 2162 = some 162 from rfl))
  subst hv1
  replace h := ac_x_n 1 h (by decide) (by decide)
  obtain ⟨b2, z2, v2_, c2_, hb2, he2, h⟩ := ac_x_call (by decide) h
  have hv2 : b2 = 60 := Option.some.inj (hb2.symm.trans (show ac_sb (nI k) 163 1209 = some 60 from rfl))
  subst hv2
  replace h := ac_x_add h
  have hr := ac_x_nil h
  simp only [Prod.mk.injEq, List.cons.injEq, and_true] at hr
  obtain ⟨e1, e2, e3⟩ := hr
  subst e1; subst e2; subst e3
  rw [ac_trs_s (by decide), ac_trs_c (by decide) hb1, ac_trs_s (by decide), ac_trs_c (by decide) hb2, ac_trs_s (by decide)] at hn ⊢
  simp only [ac_trs, List.append_nil, List.length_append] at hn ⊢
  refine mi_WC.of (X := mi_m12) rfl (Nat.le_of_ble_eq_true rfl) ?_
  refine w_iload_n mi_a12_0 rfl ?_
  refine w_tswIn (off := 232) mi_a12_1 (by decide) (by decide) 233 (by decide) ?_
  refine w_aload_n mi_a12_233 rfl ?_
  refine w_aload_n mi_a12_234 rfl ?_
  refine w_sipushv (v := 162) mi_a12_235 (by decide) ?_
  refine w_iload_n mi_a12_238 rfl ?_
  refine w_iload mi_a12_239 rfl ?_
  refine w_callV mi_a12_241 rfl rfl 4 ⟨rfl, rfl⟩ ⟨Nat.le_of_ble_eq_true rfl, Nat.le_of_ble_eq_true rfl⟩ rfl rfl rfl rfl (H _ _ _ _ _ _ _ _ _ _ _ _ _ _ _ _ _ _ _ _ _ _ _ (by omega) hk he1 (by omega) hq (by omega) hj) ?_
  rintro r' h' ⟨rfl, rfl⟩
  have hd1 := mi_set_at (c := dc (nI k) w1 w2 v1_ c1_ rs) hj
  refine w_aload_n mi_a12_244 rfl ?_
  refine w_bipushv (v := 6) mi_a12_245 (by decide) ?_
  refine w_aload_n mi_a12_247 rfl ?_
  refine w_bipushv (v := 9) mi_a12_248 (by decide) ?_
  refine w_iconstv (v := 1) mi_a12_250 (by decide) ?_
  refine w_iload mi_a12_251 rfl ?_
  refine w_callV mi_a12_253 rfl rfl 5 ⟨rfl, rfl⟩ ⟨Nat.le_of_ble_eq_true rfl, Nat.le_of_ble_eq_true rfl⟩ rfl rfl rfl rfl (ab_ok (p := 11) H (by omega) hk he2 (by omega) (by simp only [ac_kp_len]; exact hq) (by simp only [ac_kp_ran]; omega) hd1 (by decide) (by decide) (by decide) (by decide) (by decide) (by decide) (by decide) (by decide +kernel)) ?_
  rintro r' h' ⟨rfl, rfl⟩
  have hd2 := mi_set_at (c := dc (nI k) w1 w2 v2_ c2_ rs) hd1
  refine w_iadd mi_a12_256 ?_
  exact w_ireturn mi_a12_257 rfl ⟨rfl, by simp only [ac_kp_app, List.set_set]⟩
theorem bd_180 {f : Nat} (H : rn_ok f) {D : Nat} {n m tc pu stt : Int32} {q : List Int32 × Nat} {dv tk : List (Option Nat)} {dyn : mi_H} {j dp k : Nat} {x v c r v2 c2 : Int32} {w1 w2 : Value} {rs : List Value} (hD : 3 * f + 5 ≤ D) (hk : k < 11) (he : ac_ev (f + 1) (nI k) 180 x v c = some (r, v2, c2)) (hdp : dp + f ≤ 41) (hq : q.1.length = 64) (hn : q.2 + (ac_trs (ac_tr f (nI k)) (nI k) 180 [1000, 1209, 1, 1004]).length < 2 ^ 31) (hj : dyn[j]? = some (dc (nI k) w1 w2 v c rs)) : mi_WC D 13 [.ref 1, .ref (j + 6), .int 180, .int x, .int (nI dp)] (kh n m tc pu stt q dv tk dyn) (fun r' h' => r' = some (.int r) ∧ h' = kh n m tc pu stt (ac_kp (ac_trs (ac_tr f (nI k)) (nI k) 180 [1000, 1209, 1, 1004]) q) dv tk (dyn.set j (dc (nI k) w1 w2 v2 c2 rs))) := by
  obtain ⟨D, rfl⟩ : ∃ D', D = D' + 1 := ⟨D - 1, by omega⟩
  have h := ac_ev_tk (ts := [1000, 1209, 1, 1004]) (by decide +kernel) he
  replace h := ac_x_X h
  obtain ⟨b1, z1, v1_, c1_, hb1, he1, h⟩ := ac_x_call (by decide) h
  have hv1 : b1 = 101 := Option.some.inj (hb1.symm.trans (show ac_sb (nI k) 180 1209 = some 101 from rfl))
  subst hv1
  replace h := ac_x_n 1 h (by decide) (by decide)
  replace h := ac_x_sub h
  have hr := ac_x_nil h
  simp only [Prod.mk.injEq, List.cons.injEq, and_true] at hr
  obtain ⟨e1, e2, e3⟩ := hr
  subst e1; subst e2; subst e3
  rw [ac_trs_s (by decide), ac_trs_c (by decide) hb1, ac_trs_s (by decide), ac_trs_s (by decide)] at hn ⊢
  simp only [ac_trs, List.append_nil, List.length_append] at hn ⊢
  refine mi_WC.of (X := mi_m13) rfl (Nat.le_of_ble_eq_true rfl) ?_
  refine w_iload_n mi_a13_0 rfl ?_
  refine w_tswIn (off := 115) mi_a13_1 (by decide) (by decide) 116 (by decide) ?_
  refine w_aload_n mi_a13_116 rfl ?_
  refine w_bipushv (v := 8) mi_a13_117 (by decide) ?_
  refine w_aload_n mi_a13_119 rfl ?_
  refine w_bipushv (v := 9) mi_a13_120 (by decide) ?_
  refine w_iload_n mi_a13_122 rfl ?_
  refine w_iload mi_a13_123 rfl ?_
  refine w_callV mi_a13_125 rfl rfl 5 ⟨rfl, rfl⟩ ⟨Nat.le_of_ble_eq_true rfl, Nat.le_of_ble_eq_true rfl⟩ rfl rfl rfl rfl (ab_ok (p := 3) H (by omega) hk he1 (by omega) hq (by omega) hj (by decide) (by decide) (by decide) (by decide) (by decide) (by decide) (by decide) (by decide +kernel)) ?_
  rintro r' h' ⟨rfl, rfl⟩
  have hd1 := mi_set_at (c := dc (nI k) w1 w2 v1_ c1_ rs) hj
  refine w_iconstv (v := 1) mi_a13_128 (by decide) ?_
  refine w_isub mi_a13_129 ?_
  exact w_ireturn mi_a13_130 rfl ⟨rfl, by simp only [ac_kp_app, List.set_set]⟩
theorem bd_181 {f : Nat} (H : rn_ok f) {D : Nat} {n m tc pu stt : Int32} {q : List Int32 × Nat} {dv tk : List (Option Nat)} {dyn : mi_H} {j dp k : Nat} {x v c r v2 c2 : Int32} {w1 w2 : Value} {rs : List Value} (hD : 3 * f + 5 ≤ D) (hk : k < 11) (he : ac_ev (f + 1) (nI k) 181 x v c = some (r, v2, c2)) (hdp : dp + f ≤ 41) (hq : q.1.length = 64) (hn : q.2 + (ac_trs (ac_tr f (nI k)) (nI k) 181 [1000, 1202, 2, 1101, 1003]).length < 2 ^ 31) (hj : dyn[j]? = some (dc (nI k) w1 w2 v c rs)) : mi_WC D 13 [.ref 1, .ref (j + 6), .int 181, .int x, .int (nI dp)] (kh n m tc pu stt q dv tk dyn) (fun r' h' => r' = some (.int r) ∧ h' = kh n m tc pu stt (ac_kp (ac_trs (ac_tr f (nI k)) (nI k) 181 [1000, 1202, 2, 1101, 1003]) q) dv tk (dyn.set j (dc (nI k) w1 w2 v2 c2 rs))) := by
  obtain ⟨D, rfl⟩ : ∃ D', D = D' + 1 := ⟨D - 1, by omega⟩
  have h := ac_ev_tk (ts := [1000, 1202, 2, 1101, 1003]) (by decide +kernel) he
  replace h := ac_x_X h
  obtain ⟨b1, z1, v1_, c1_, hb1, he1, h⟩ := ac_x_call (by decide) h
  have hv1 : b1 = 11 := Option.some.inj (hb1.symm.trans (show ac_sb (nI k) 181 1202 = some 11 from rfl))
  subst hv1
  replace h := ac_x_n 2 h (by decide) (by decide)
  obtain ⟨b2, z2, v2_, c2_, hb2, he2, h⟩ := ac_x_call (by decide) h
  replace h := ac_x_add h
  have hr := ac_x_nil h
  simp only [Prod.mk.injEq, List.cons.injEq, and_true] at hr
  obtain ⟨e1, e2, e3⟩ := hr
  subst e1; subst e2; subst e3
  rw [ac_trs_s (by decide), ac_trs_c (by decide) hb1, ac_trs_s (by decide), ac_trs_c (by decide) hb2, ac_trs_s (by decide)] at hn ⊢
  simp only [ac_trs, List.append_nil, List.length_append] at hn ⊢
  refine mi_WC.of (X := mi_m13) rfl (Nat.le_of_ble_eq_true rfl) ?_
  refine w_iload_n mi_a13_0 rfl ?_
  refine w_tswIn (off := 130) mi_a13_1 (by decide) (by decide) 131 (by decide) ?_
  refine w_aload_n mi_a13_131 rfl ?_
  refine w_bipushv (v := 8) mi_a13_132 (by decide) ?_
  refine w_aload_n mi_a13_134 rfl ?_
  refine w_iconstv (v := 2) mi_a13_135 (by decide) ?_
  refine w_iload_n mi_a13_136 rfl ?_
  refine w_iload mi_a13_137 rfl ?_
  refine w_callV mi_a13_139 rfl rfl 5 ⟨rfl, rfl⟩ ⟨Nat.le_of_ble_eq_true rfl, Nat.le_of_ble_eq_true rfl⟩ rfl rfl rfl rfl (ab_ok (p := 3) H (by omega) hk he1 (by omega) hq (by omega) hj (by decide) (by decide) (by decide) (by decide) (by decide) (by decide) (by decide) (by decide +kernel)) ?_
  rintro r' h' ⟨rfl, rfl⟩
  have hd1 := mi_set_at (c := dc (nI k) w1 w2 v1_ c1_ rs) hj
  refine w_aload_n mi_a13_142 rfl ?_
  refine w_aload_n mi_a13_143 rfl ?_
  refine w_iconstv (v := 1) mi_a13_144 (by decide) ?_
  refine w_iconstv (v := 2) mi_a13_145 (by decide) ?_
  refine w_iload mi_a13_146 rfl ?_
  refine w_callV mi_a13_148 rfl rfl 4 ⟨rfl, rfl⟩ ⟨Nat.le_of_ble_eq_true rfl, Nat.le_of_ble_eq_true rfl⟩ rfl rfl rfl rfl (an_ok H (by omega) hk he2 (by omega) (by simp only [ac_kp_len]; exact hq) (by simp only [ac_kp_ran]; omega) hd1 (by decide) (by decide) (sel_do (a := 1) (by decide) (by decide) hk hb2 he2)) ?_
  rintro r' h' ⟨rfl, rfl⟩
  have hd2 := mi_set_at (c := dc (nI k) w1 w2 v2_ c2_ rs) hd1
  refine w_iadd mi_a13_151 ?_
  exact w_ireturn mi_a13_152 rfl ⟨rfl, by simp only [ac_kp_app, List.set_set]⟩
theorem bd_190 {f : Nat} (H : rn_ok f) {D : Nat} {n m tc pu stt : Int32} {q : List Int32 × Nat} {dv tk : List (Option Nat)} {dyn : mi_H} {j dp k : Nat} {x v c r v2 c2 : Int32} {w1 w2 : Value} {rs : List Value} (hD : 3 * f + 5 ≤ D) (hk : k < 11) (he : ac_ev (f + 1) (nI k) 190 x v c = some (r, v2, c2)) (hdp : dp + f ≤ 41) (hq : q.1.length = 64) (hn : q.2 + (ac_trs (ac_tr f (nI k)) (nI k) 190 [1000, 1110, 2, 1005]).length < 2 ^ 31) (hj : dyn[j]? = some (dc (nI k) w1 w2 v c rs)) : mi_WC D 13 [.ref 1, .ref (j + 6), .int 190, .int x, .int (nI dp)] (kh n m tc pu stt q dv tk dyn) (fun r' h' => r' = some (.int r) ∧ h' = kh n m tc pu stt (ac_kp (ac_trs (ac_tr f (nI k)) (nI k) 190 [1000, 1110, 2, 1005]) q) dv tk (dyn.set j (dc (nI k) w1 w2 v2 c2 rs))) := by
  obtain ⟨D, rfl⟩ : ∃ D', D = D' + 1 := ⟨D - 1, by omega⟩
  have h := ac_ev_tk (ts := [1000, 1110, 2, 1005]) (by decide +kernel) he
  replace h := ac_x_X h
  obtain ⟨b1, z1, v1_, c1_, hb1, he1, h⟩ := ac_x_call (by decide) h
  replace h := ac_x_n 2 h (by decide) (by decide)
  replace h := ac_x_mul h
  have hr := ac_x_nil h
  simp only [Prod.mk.injEq, List.cons.injEq, and_true] at hr
  obtain ⟨e1, e2, e3⟩ := hr
  subst e1; subst e2; subst e3
  rw [ac_trs_s (by decide), ac_trs_c (by decide) hb1, ac_trs_s (by decide), ac_trs_s (by decide)] at hn ⊢
  simp only [ac_trs, List.append_nil, List.length_append] at hn ⊢
  refine mi_WC.of (X := mi_m13) rfl (Nat.le_of_ble_eq_true rfl) ?_
  refine w_iload_n mi_a13_0 rfl ?_
  refine w_tswIn (off := 152) mi_a13_1 (by decide) (by decide) 153 (by decide) ?_
  refine w_aload_n mi_a13_153 rfl ?_
  refine w_aload_n mi_a13_154 rfl ?_
  refine w_bipushv (v := 10) mi_a13_155 (by decide) ?_
  refine w_iload_n mi_a13_157 rfl ?_
  refine w_iload mi_a13_158 rfl ?_
  refine w_callV mi_a13_160 rfl rfl 4 ⟨rfl, rfl⟩ ⟨Nat.le_of_ble_eq_true rfl, Nat.le_of_ble_eq_true rfl⟩ rfl rfl rfl rfl (an_ok H (by omega) hk he1 (by omega) hq (by omega) hj (by decide) (by decide) (sel_do (a := 10) (by decide) (by decide) hk hb1 he1)) ?_
  rintro r' h' ⟨rfl, rfl⟩
  have hd1 := mi_set_at (c := dc (nI k) w1 w2 v1_ c1_ rs) hj
  refine w_iconstv (v := 2) mi_a13_163 (by decide) ?_
  refine w_imul mi_a13_164 ?_
  exact w_ireturn mi_a13_165 rfl ⟨rfl, by simp only [ac_kp_app, List.set_set]⟩
theorem bd_200 {f : Nat} (H : rn_ok f) {D : Nat} {n m tc pu stt : Int32} {q : List Int32 × Nat} {dv tk : List (Option Nat)} {dyn : mi_H} {j dp k : Nat} {x v c r v2 c2 : Int32} {w1 w2 : Value} {rs : List Value} (hD : 3 * f + 5 ≤ D) (hk : k < 11) (he : ac_ev (f + 1) (nI k) 200 x v c = some (r, v2, c2)) (hdp : dp + f ≤ 41) (hq : q.1.length = 64) (hn : q.2 + (ac_trs (ac_tr f (nI k)) (nI k) 200 [1002, 1000, 1003]).length < 2 ^ 31) (hj : dyn[j]? = some (dc (nI k) w1 w2 v c rs)) : mi_WC D 13 [.ref 1, .ref (j + 6), .int 200, .int x, .int (nI dp)] (kh n m tc pu stt q dv tk dyn) (fun r' h' => r' = some (.int r) ∧ h' = kh n m tc pu stt (ac_kp (ac_trs (ac_tr f (nI k)) (nI k) 200 [1002, 1000, 1003]) q) dv tk (dyn.set j (dc (nI k) w1 w2 v2 c2 rs))) := by
  obtain ⟨D, rfl⟩ : ∃ D', D = D' + 1 := ⟨D - 1, by omega⟩
  have h := ac_ev_tk (ts := [1002, 1000, 1003]) (by decide +kernel) he
  replace h := ac_x_C h
  replace h := ac_x_X h
  replace h := ac_x_add h
  have hr := ac_x_nil h
  simp only [Prod.mk.injEq, List.cons.injEq, and_true] at hr
  obtain ⟨e1, e2, e3⟩ := hr
  subst e1; subst e2; subst e3
  rw [ac_trs_s (by decide), ac_trs_s (by decide), ac_trs_s (by decide)] at hn ⊢
  simp only [ac_trs, List.append_nil, List.length_append] at hn ⊢
  refine mi_WC.of (X := mi_m13) rfl (Nat.le_of_ble_eq_true rfl) ?_
  refine w_iload_n mi_a13_0 rfl ?_
  refine w_tswIn (off := 165) mi_a13_1 (by decide) (by decide) 166 (by decide) ?_
  refine w_aload_n mi_a13_166 rfl ?_
  refine w_get mi_a13_167 rfl hj rfl ?_
  refine w_iload_n mi_a13_170 rfl ?_
  refine w_iadd mi_a13_171 ?_
  exact w_ireturn mi_a13_172 rfl ⟨rfl, by rw [mi_set_same hj]; rfl⟩
theorem bd_201 {f : Nat} (H : rn_ok f) {D : Nat} {n m tc pu stt : Int32} {q : List Int32 × Nat} {dv tk : List (Option Nat)} {dyn : mi_H} {j dp k : Nat} {x v c r v2 c2 : Int32} {w1 w2 : Value} {rs : List Value} (hD : 3 * f + 5 ≤ D) (hk : k < 11) (he : ac_ev (f + 1) (nI k) 201 x v c = some (r, v2, c2)) (hdp : dp + f ≤ 41) (hq : q.1.length = 64) (hn : q.2 + (ac_trs (ac_tr f (nI k)) (nI k) 201 [1000, 1367, 1000, 2200, 1003]).length < 2 ^ 31) (hj : dyn[j]? = some (dc (nI k) w1 w2 v c rs)) : mi_WC D 13 [.ref 1, .ref (j + 6), .int 201, .int x, .int (nI dp)] (kh n m tc pu stt q dv tk dyn) (fun r' h' => r' = some (.int r) ∧ h' = kh n m tc pu stt (ac_kp (ac_trs (ac_tr f (nI k)) (nI k) 201 [1000, 1367, 1000, 2200, 1003]) q) dv tk (dyn.set j (dc (nI k) w1 w2 v2 c2 rs))) := by
  obtain ⟨D, rfl⟩ : ∃ D', D = D' + 1 := ⟨D - 1, by omega⟩
  have h := ac_ev_tk (ts := [1000, 1367, 1000, 2200, 1003]) (by decide +kernel) he
  replace h := ac_x_X h
  obtain ⟨b1, z1, v1_, c1_, hb1, he1, h⟩ := ac_x_call (by decide) h
  have hv1 : b1 = 50 := Option.some.inj (hb1.symm.trans (show ac_sb (nI k) 201 1367 = some 50 from rfl))
  subst hv1
  replace h := ac_x_X h
  obtain ⟨b2, z2, v2_, c2_, hb2, he2, h⟩ := ac_x_call (by decide) h
  have hv2 : b2 = 200 := Option.some.inj (hb2.symm.trans (show ac_sb (nI k) 201 2200 = some 200 from rfl))
  subst hv2
  replace h := ac_x_add h
  have hr := ac_x_nil h
  simp only [Prod.mk.injEq, List.cons.injEq, and_true] at hr
  obtain ⟨e1, e2, e3⟩ := hr
  subst e1; subst e2; subst e3
  rw [ac_trs_s (by decide), ac_trs_c (by decide) hb1, ac_trs_s (by decide), ac_trs_c (by decide) hb2, ac_trs_s (by decide)] at hn ⊢
  simp only [ac_trs, List.append_nil, List.length_append] at hn ⊢
  refine mi_WC.of (X := mi_m13) rfl (Nat.le_of_ble_eq_true rfl) ?_
  refine w_iload_n mi_a13_0 rfl ?_
  refine w_tswIn (off := 172) mi_a13_1 (by decide) (by decide) 173 (by decide) ?_
  refine w_aload_n mi_a13_173 rfl ?_
  refine w_bipushv (v := 17) mi_a13_174 (by decide) ?_
  refine w_aload_n mi_a13_176 rfl ?_
  refine w_bipushv (v := 7) mi_a13_177 (by decide) ?_
  refine w_iload_n mi_a13_179 rfl ?_
  refine w_iload mi_a13_180 rfl ?_
  refine w_callV mi_a13_182 rfl rfl 5 ⟨rfl, rfl⟩ ⟨Nat.le_of_ble_eq_true rfl, Nat.le_of_ble_eq_true rfl⟩ rfl rfl rfl rfl (by_ok H (by omega) hk he1 (by omega) hq (by omega) hj (by decide) (by decide) (by decide) (by decide) (by decide +kernel)) ?_
  rintro r' h' ⟨rfl, rfl⟩
  have hd1 := mi_set_at (c := dc (nI k) w1 w2 v1_ c1_ rs) hj
  refine w_aload_n mi_a13_185 rfl ?_
  refine w_aload_n mi_a13_186 rfl ?_
  refine w_sipushv (v := 200) mi_a13_187 (by decide) ?_
  refine w_iload_n mi_a13_190 rfl ?_
  refine w_iload mi_a13_191 rfl ?_
  refine w_callV mi_a13_193 rfl rfl 4 ⟨rfl, rfl⟩ ⟨Nat.le_of_ble_eq_true rfl, Nat.le_of_ble_eq_true rfl⟩ rfl rfl rfl rfl (H _ _ _ _ _ _ _ _ _ _ _ _ _ _ _ _ _ _ _ _ _ _ _ (by omega) hk he2 (by omega) (by simp only [ac_kp_len]; exact hq) (by simp only [ac_kp_ran]; omega) hd1) ?_
  rintro r' h' ⟨rfl, rfl⟩
  have hd2 := mi_set_at (c := dc (nI k) w1 w2 v2_ c2_ rs) hd1
  refine w_iadd mi_a13_196 ?_
  exact w_ireturn mi_a13_197 rfl ⟨rfl, by simp only [ac_kp_app, List.set_set]⟩
theorem bd_202 {f : Nat} (H : rn_ok f) {D : Nat} {n m tc pu stt : Int32} {q : List Int32 × Nat} {dv tk : List (Option Nat)} {dyn : mi_H} {j dp k : Nat} {x v c r v2 c2 : Int32} {w1 w2 : Value} {rs : List Value} (hD : 3 * f + 5 ≤ D) (hk : k < 11) (he : ac_ev (f + 1) (nI k) 202 x v c = some (r, v2, c2)) (hdp : dp + f ≤ 41) (hq : q.1.length = 64) (hn : q.2 + (ac_trs (ac_tr f (nI k)) (nI k) 202 [1000, 1338, 1000, 1202, 1003]).length < 2 ^ 31) (hj : dyn[j]? = some (dc (nI k) w1 w2 v c rs)) : mi_WC D 13 [.ref 1, .ref (j + 6), .int 202, .int x, .int (nI dp)] (kh n m tc pu stt q dv tk dyn) (fun r' h' => r' = some (.int r) ∧ h' = kh n m tc pu stt (ac_kp (ac_trs (ac_tr f (nI k)) (nI k) 202 [1000, 1338, 1000, 1202, 1003]) q) dv tk (dyn.set j (dc (nI k) w1 w2 v2 c2 rs))) := by
  obtain ⟨D, rfl⟩ : ∃ D', D = D' + 1 := ⟨D - 1, by omega⟩
  have h := ac_ev_tk (ts := [1000, 1338, 1000, 1202, 1003]) (by decide +kernel) he
  replace h := ac_x_X h
  obtain ⟨b1, z1, v1_, c1_, hb1, he1, h⟩ := ac_x_call (by decide) h
  have hv1 : b1 = 30 := Option.some.inj (hb1.symm.trans (show ac_sb (nI k) 202 1338 = some 30 from rfl))
  subst hv1
  replace h := ac_x_X h
  obtain ⟨b2, z2, v2_, c2_, hb2, he2, h⟩ := ac_x_call (by decide) h
  have hv2 : b2 = 141 := Option.some.inj (hb2.symm.trans (show ac_sb (nI k) 202 1202 = some 141 from rfl))
  subst hv2
  replace h := ac_x_add h
  have hr := ac_x_nil h
  simp only [Prod.mk.injEq, List.cons.injEq, and_true] at hr
  obtain ⟨e1, e2, e3⟩ := hr
  subst e1; subst e2; subst e3
  rw [ac_trs_s (by decide), ac_trs_c (by decide) hb1, ac_trs_s (by decide), ac_trs_c (by decide) hb2, ac_trs_s (by decide)] at hn ⊢
  simp only [ac_trs, List.append_nil, List.length_append] at hn ⊢
  refine mi_WC.of (X := mi_m13) rfl (Nat.le_of_ble_eq_true rfl) ?_
  refine w_iload_n mi_a13_0 rfl ?_
  refine w_tswIn (off := 197) mi_a13_1 (by decide) (by decide) 198 (by decide) ?_
  refine w_aload_n mi_a13_198 rfl ?_
  refine w_bipushv (v := 15) mi_a13_199 (by decide) ?_
  refine w_aload_n mi_a13_201 rfl ?_
  refine w_iconstv (v := 2) mi_a13_202 (by decide) ?_
  refine w_iload_n mi_a13_203 rfl ?_
  refine w_iload mi_a13_204 rfl ?_
  refine w_callV mi_a13_206 rfl rfl 5 ⟨rfl, rfl⟩ ⟨Nat.le_of_ble_eq_true rfl, Nat.le_of_ble_eq_true rfl⟩ rfl rfl rfl rfl (by_ok H (by omega) hk he1 (by omega) hq (by omega) hj (by decide) (by decide) (by decide) (by decide) (by decide +kernel)) ?_
  rintro r' h' ⟨rfl, rfl⟩
  have hd1 := mi_set_at (c := dc (nI k) w1 w2 v1_ c1_ rs) hj
  refine w_aload_n mi_a13_209 rfl ?_
  refine w_bipushv (v := 10) mi_a13_210 (by decide) ?_
  refine w_aload_n mi_a13_212 rfl ?_
  refine w_iconstv (v := 2) mi_a13_213 (by decide) ?_
  refine w_iload_n mi_a13_214 rfl ?_
  refine w_iload mi_a13_215 rfl ?_
  refine w_callV mi_a13_217 rfl rfl 5 ⟨rfl, rfl⟩ ⟨Nat.le_of_ble_eq_true rfl, Nat.le_of_ble_eq_true rfl⟩ rfl rfl rfl rfl (ab_ok (p := 4) H (by omega) hk he2 (by omega) (by simp only [ac_kp_len]; exact hq) (by simp only [ac_kp_ran]; omega) hd1 (by decide) (by decide) (by decide) (by decide) (by decide) (by decide) (by decide) (by decide +kernel)) ?_
  rintro r' h' ⟨rfl, rfl⟩
  have hd2 := mi_set_at (c := dc (nI k) w1 w2 v2_ c2_ rs) hd1
  refine w_iadd mi_a13_220 ?_
  exact w_ireturn mi_a13_221 rfl ⟨rfl, by simp only [ac_kp_app, List.set_set]⟩
theorem bd_204 {f : Nat} (H : rn_ok f) {D : Nat} {n m tc pu stt : Int32} {q : List Int32 × Nat} {dv tk : List (Option Nat)} {dyn : mi_H} {j dp k : Nat} {x v c r v2 c2 : Int32} {w1 w2 : Value} {rs : List Value} (hD : 3 * f + 5 ≤ D) (hk : k < 11) (he : ac_ev (f + 1) (nI k) 204 x v c = some (r, v2, c2)) (hdp : dp + f ≤ 41) (hq : q.1.length = 64) (hn : q.2 + (ac_trs (ac_tr f (nI k)) (nI k) 204 [1000, 1205, 1, 1003]).length < 2 ^ 31) (hj : dyn[j]? = some (dc (nI k) w1 w2 v c rs)) : mi_WC D 13 [.ref 1, .ref (j + 6), .int 204, .int x, .int (nI dp)] (kh n m tc pu stt q dv tk dyn) (fun r' h' => r' = some (.int r) ∧ h' = kh n m tc pu stt (ac_kp (ac_trs (ac_tr f (nI k)) (nI k) 204 [1000, 1205, 1, 1003]) q) dv tk (dyn.set j (dc (nI k) w1 w2 v2 c2 rs))) := by
  obtain ⟨D, rfl⟩ : ∃ D', D = D' + 1 := ⟨D - 1, by omega⟩
  have h := ac_ev_tk (ts := [1000, 1205, 1, 1003]) (by decide +kernel) he
  replace h := ac_x_X h
  obtain ⟨b1, z1, v1_, c1_, hb1, he1, h⟩ := ac_x_call (by decide) h
  have hv1 : b1 = 70 := Option.some.inj (hb1.symm.trans (show ac_sb (nI k) 204 1205 = some 70 from rfl))
  subst hv1
  replace h := ac_x_n 1 h (by decide) (by decide)
  replace h := ac_x_add h
  have hr := ac_x_nil h
  simp only [Prod.mk.injEq, List.cons.injEq, and_true] at hr
  obtain ⟨e1, e2, e3⟩ := hr
  subst e1; subst e2; subst e3
  rw [ac_trs_s (by decide), ac_trs_c (by decide) hb1, ac_trs_s (by decide), ac_trs_s (by decide)] at hn ⊢
  simp only [ac_trs, List.append_nil, List.length_append] at hn ⊢
  refine mi_WC.of (X := mi_m13) rfl (Nat.le_of_ble_eq_true rfl) ?_
  refine w_iload_n mi_a13_0 rfl ?_
  refine w_tswIn (off := 221) mi_a13_1 (by decide) (by decide) 222 (by decide) ?_
  refine w_aload_n mi_a13_222 rfl ?_
  refine w_bipushv (v := 10) mi_a13_223 (by decide) ?_
  refine w_aload_n mi_a13_225 rfl ?_
  refine w_iconstv (v := 5) mi_a13_226 (by decide) ?_
  refine w_iload_n mi_a13_227 rfl ?_
  refine w_iload mi_a13_228 rfl ?_
  refine w_callV mi_a13_230 rfl rfl 5 ⟨rfl, rfl⟩ ⟨Nat.le_of_ble_eq_true rfl, Nat.le_of_ble_eq_true rfl⟩ rfl rfl rfl rfl (ab_ok (p := 4) H (by omega) hk he1 (by omega) hq (by omega) hj (by decide) (by decide) (by decide) (by decide) (by decide) (by decide) (by decide) (by decide +kernel)) ?_
  rintro r' h' ⟨rfl, rfl⟩
  have hd1 := mi_set_at (c := dc (nI k) w1 w2 v1_ c1_ rs) hj
  refine w_iconstv (v := 1) mi_a13_233 (by decide) ?_
  refine w_iadd mi_a13_234 ?_
  exact w_ireturn mi_a13_235 rfl ⟨rfl, by simp only [ac_kp_app, List.set_set]⟩
