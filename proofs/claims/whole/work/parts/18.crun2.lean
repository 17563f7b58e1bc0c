/-! run() itself, and the whole group by induction -/
theorem ac_kp_cons (b : Int32) (l : List Int32) (q : List Int32 × Nat) : ac_kp (b :: l) q = ac_kp l (ac_kp [b] q) := rfl
theorem rb_10 {f : Nat} (H : rn_ok f) {D : Nat} {n m tc pu stt : Int32} {q : List Int32 × Nat} {dv tk : List (Option Nat)} {dyn : mi_H} {j dp k : Nat} {x v c r v2 c2 : Int32} {w1 w2 : Value} {rs : List Value} (hD : 3 * (f + 1) + 3 ≤ D) (hk : k < 11) (he : ac_ev (f + 1) (nI k) 10 x v c = some (r, v2, c2)) (hdp : dp + (f + 1) ≤ 41) (hq : q.1.length = 64) (hn : q.2 + (ac_tr (f + 1) (nI k) 10).length < 2 ^ 31) (hj : dyn[j]? = some (dc (nI k) w1 w2 v c rs)) : mi_WC D 7 [.ref 1, .ref (j + 6), .int 10, .int x, .int (nI dp)] (kh n m tc pu stt q dv tk dyn) (fun r' h' => r' = some (.int r) ∧ h' = kh n m tc pu stt (ac_kp (ac_tr (f + 1) (nI k) 10) q) dv tk (dyn.set j (dc (nI k) w1 w2 v2 c2 rs))) := by
  obtain ⟨D, rfl⟩ : ∃ D', D = D' + 1 := ⟨D - 1, by omega⟩
  have ht : ac_tr (f + 1) (nI k) 10 = 10 :: ac_trs (ac_tr f (nI k)) (nI k) 10 [1000, 1100, 1, 1003] := by rw [ac_tr, show ac_tk 10 = some [1000, 1100, 1, 1003] from by decide +kernel]; rfl
  rw [ht] at hn ⊢
  rw [List.length_cons] at hn
  refine mi_WC.of (X := mi_m7) rfl (Nat.le_of_ble_eq_true rfl) ?_
  refine w_iload_n mi_a7_0 rfl ?_
  refine w_if_eq mi_a7_1 11 (by decide) (fun c => absurd c (by decide)) (fun _ => ?_)
  refine w_iload mi_a7_4 rfl ?_
  refine w_bipushv (v := 40) mi_a7_6 (by decide) ?_
  refine w_icmp_le mi_a7_8 13 (by decide) (fun _ => ?_) (fun c => absurd (nI_le (a := dp) (b := 40) (by omega) (by decide)) c)
  refine w_aload_n mi_a7_13 rfl ?_
  refine w_iload_n mi_a7_14 rfl ?_
  refine w_callV mi_a7_15 rfl rfl 1 ⟨rfl, rfl⟩ ⟨Nat.le_of_ble_eq_true rfl, Nat.le_of_ble_eq_true rfl⟩ rfl rfl rfl rfl (mi_WC.mono (s_begin (d := 0) hq (by omega)) (by omega)) ?_
  rintro r' h' ⟨rfl, rfl⟩
  refine w_iload_n mi_a7_18 rfl ?_
  refine w_bipushv (v := 60) mi_a7_19 (by decide) ?_
  refine w_icmp_ge mi_a7_21 36 (by decide) (fun c => absurd c (by decide)) (fun _ => ?_)
  refine w_aload_n mi_a7_24 rfl ?_
  refine w_aload_n mi_a7_25 rfl ?_
  refine w_iload_n mi_a7_26 rfl ?_
  refine w_iload_n mi_a7_27 rfl ?_
  refine w_iload mi_a7_28 rfl ?_
  refine w_iconstv (v := 1) mi_a7_30 (by decide) ?_
  refine w_iaddv mi_a7_31 (nI_succ dp).symm ?_
  refine w_callV mi_a7_32 rfl rfl 4 ⟨rfl, rfl⟩ ⟨Nat.le_of_ble_eq_true rfl, Nat.le_of_ble_eq_true rfl⟩ rfl rfl rfl rfl (bd_10 H (dp := dp + 1) (by omega) hk he (by omega) (by rw [ac_kp_len]; exact hq) (by rw [ac_kp_ran]; simp only [List.length_cons, List.length_nil]; omega) hj) ?_
  rintro r' h' ⟨rfl, rfl⟩
  exact w_ireturn mi_a7_35 rfl ⟨rfl, by rw [ac_kp_cons 10 (ac_trs (ac_tr f (nI k)) (nI k) 10 [1000, 1100, 1, 1003])]⟩
theorem rb_11 {f : Nat} (H : rn_ok f) {D : Nat} {n m tc pu stt : Int32} {q : List Int32 × Nat} {dv tk : List (Option Nat)} {dyn : mi_H} {j dp k : Nat} {x v c r v2 c2 : Int32} {w1 w2 : Value} {rs : List Value} (hD : 3 * (f + 1) + 3 ≤ D) (hk : k < 11) (he : ac_ev (f + 1) (nI k) 11 x v c = some (r, v2, c2)) (hdp : dp + (f + 1) ≤ 41) (hq : q.1.length = 64) (hn : q.2 + (ac_tr (f + 1) (nI k) 11).length < 2 ^ 31) (hj : dyn[j]? = some (dc (nI k) w1 w2 v c rs)) : mi_WC D 7 [.ref 1, .ref (j + 6), .int 11, .int x, .int (nI dp)] (kh n m tc pu stt q dv tk dyn) (fun r' h' => r' = some (.int r) ∧ h' = kh n m tc pu stt (ac_kp (ac_tr (f + 1) (nI k) 11) q) dv tk (dyn.set j (dc (nI k) w1 w2 v2 c2 rs))) := by
  obtain ⟨D, rfl⟩ : ∃ D', D = D' + 1 := ⟨D - 1, by omega⟩
  have ht : ac_tr (f + 1) (nI k) 11 = 11 :: ac_trs (ac_tr f (nI k)) (nI k) 11 [1000, 1101, 3, 1005, 1000, 1, 1003, 1100, 1004] := by rw [ac_tr, show ac_tk 11 = some [1000, 1101, 3, 1005, 1000, 1, 1003, 1100, 1004] from by decide +kernel]; rfl
  rw [ht] at hn ⊢
  rw [List.length_cons] at hn
  refine mi_WC.of (X := mi_m7) rfl (Nat.le_of_ble_eq_true rfl) ?_
  refine w_iload_n mi_a7_0 rfl ?_
  refine w_if_eq mi_a7_1 11 (by decide) (fun c => absurd c (by decide)) (fun _ => ?_)
  refine w_iload mi_a7_4 rfl ?_
  refine w_bipushv (v := 40) mi_a7_6 (by decide) ?_
  refine w_icmp_le mi_a7_8 13 (by decide) (fun _ => ?_) (fun c => absurd (nI_le (a := dp) (b := 40) (by omega) (by decide)) c)
  refine w_aload_n mi_a7_13 rfl ?_
  refine w_iload_n mi_a7_14 rfl ?_
  refine w_callV mi_a7_15 rfl rfl 1 ⟨rfl, rfl⟩ ⟨Nat.le_of_ble_eq_true rfl, Nat.le_of_ble_eq_true rfl⟩ rfl rfl rfl rfl (mi_WC.mono (s_begin (d := 0) hq (by omega)) (by omega)) ?_
  rintro r' h' ⟨rfl, rfl⟩
  refine w_iload_n mi_a7_18 rfl ?_
  refine w_bipushv (v := 60) mi_a7_19 (by decide) ?_
  refine w_icmp_ge mi_a7_21 36 (by decide) (fun c => absurd c (by decide)) (fun _ => ?_)
  refine w_aload_n mi_a7_24 rfl ?_
  refine w_aload_n mi_a7_25 rfl ?_
  refine w_iload_n mi_a7_26 rfl ?_
  refine w_iload_n mi_a7_27 rfl ?_
  refine w_iload mi_a7_28 rfl ?_
  refine w_iconstv (v := 1) mi_a7_30 (by decide) ?_
  refine w_iaddv mi_a7_31 (nI_succ dp).symm ?_
  refine w_callV mi_a7_32 rfl rfl 4 ⟨rfl, rfl⟩ ⟨Nat.le_of_ble_eq_true rfl, Nat.le_of_ble_eq_true rfl⟩ rfl rfl rfl rfl (bd_11 H (dp := dp + 1) (by omega) hk he (by omega) (by rw [ac_kp_len]; exact hq) (by rw [ac_kp_ran]; simp only [List.length_cons, List.length_nil]; omega) hj) ?_
  rintro r' h' ⟨rfl, rfl⟩
  exact w_ireturn mi_a7_35 rfl ⟨rfl, by rw [ac_kp_cons 11 (ac_trs (ac_tr f (nI k)) (nI k) 11 [1000, 1101, 3, 1005, 1000, 1, 1003, 1100, 1004])]⟩
theorem rb_20 {f : Nat} (H : rn_ok f) {D : Nat} {n m tc pu stt : Int32} {q : List Int32 × Nat} {dv tk : List (Option Nat)} {dyn : mi_H} {j dp k : Nat} {x v c r v2 c2 : Int32} {w1 w2 : Value} {rs : List Value} (hD : 3 * (f + 1) + 3 ≤ D) (hk : k < 11) (he : ac_ev (f + 1) (nI k) 20 x v c = some (r, v2, c2)) (hdp : dp + (f + 1) ≤ 41) (hq : q.1.length = 64) (hn : q.2 + (ac_tr (f + 1) (nI k) 20).length < 2 ^ 31) (hj : dyn[j]? = some (dc (nI k) w1 w2 v c rs)) : mi_WC D 7 [.ref 1, .ref (j + 6), .int 20, .int x, .int (nI dp)] (kh n m tc pu stt q dv tk dyn) (fun r' h' => r' = some (.int r) ∧ h' = kh n m tc pu stt (ac_kp (ac_tr (f + 1) (nI k) 20) q) dv tk (dyn.set j (dc (nI k) w1 w2 v2 c2 rs))) := by
  obtain ⟨D, rfl⟩ : ∃ D', D = D' + 1 := ⟨D - 1, by omega⟩
  have ht : ac_tr (f + 1) (nI k) 20 = 20 :: ac_trs (ac_tr f (nI k)) (nI k) 20 [1000, 1103, 1000, 1, 1003, 1103, 1003] := by rw [ac_tr, show ac_tk 20 = some [1000, 1103, 1000, 1, 1003, 1103, 1003] from by decide +kernel]; rfl
  rw [ht] at hn ⊢
  rw [List.length_cons] at hn
  refine mi_WC.of (X := mi_m7) rfl (Nat.le_of_ble_eq_true rfl) ?_
  refine w_iload_n mi_a7_0 rfl ?_
  refine w_if_eq mi_a7_1 11 (by decide) (fun c => absurd c (by decide)) (fun _ => ?_)
  refine w_iload mi_a7_4 rfl ?_
  refine w_bipushv (v := 40) mi_a7_6 (by decide) ?_
  refine w_icmp_le mi_a7_8 13 (by decide) (fun _ => ?_) (fun c => absurd (nI_le (a := dp) (b := 40) (by omega) (by decide)) c)
  refine w_aload_n mi_a7_13 rfl ?_
  refine w_iload_n mi_a7_14 rfl ?_
  refine w_callV mi_a7_15 rfl rfl 1 ⟨rfl, rfl⟩ ⟨Nat.le_of_ble_eq_true rfl, Nat.le_of_ble_eq_true rfl⟩ rfl rfl rfl rfl (mi_WC.mono (s_begin (d := 0) hq (by omega)) (by omega)) ?_
  rintro r' h' ⟨rfl, rfl⟩
  refine w_iload_n mi_a7_18 rfl ?_
  refine w_bipushv (v := 60) mi_a7_19 (by decide) ?_
  refine w_icmp_ge mi_a7_21 36 (by decide) (fun c => absurd c (by decide)) (fun _ => ?_)
  refine w_aload_n mi_a7_24 rfl ?_
  refine w_aload_n mi_a7_25 rfl ?_
  refine w_iload_n mi_a7_26 rfl ?_
  refine w_iload_n mi_a7_27 rfl ?_
  refine w_iload mi_a7_28 rfl ?_
  refine w_iconstv (v := 1) mi_a7_30 (by decide) ?_
  refine w_iaddv mi_a7_31 (nI_succ dp).symm ?_
  refine w_callV mi_a7_32 rfl rfl 4 ⟨rfl, rfl⟩ ⟨Nat.le_of_ble_eq_true rfl, Nat.le_of_ble_eq_true rfl⟩ rfl rfl rfl rfl (bd_20 H (dp := dp + 1) (by omega) hk he (by omega) (by rw [ac_kp_len]; exact hq) (by rw [ac_kp_ran]; simp only [List.length_cons, List.length_nil]; omega) hj) ?_
  rintro r' h' ⟨rfl, rfl⟩
  exact w_ireturn mi_a7_35 rfl ⟨rfl, by rw [ac_kp_cons 20 (ac_trs (ac_tr f (nI k)) (nI k) 20 [1000, 1103, 1000, 1, 1003, 1103, 1003])]⟩
theorem rb_21 {f : Nat} (H : rn_ok f) {D : Nat} {n m tc pu stt : Int32} {q : List Int32 × Nat} {dv tk : List (Option Nat)} {dyn : mi_H} {j dp k : Nat} {x v c r v2 c2 : Int32} {w1 w2 : Value} {rs : List Value} (hD : 3 * (f + 1) + 3 ≤ D) (hk : k < 11) (he : ac_ev (f + 1) (nI k) 21 x v c = some (r, v2, c2)) (hdp : dp + (f + 1) ≤ 41) (hq : q.1.length = 64) (hn : q.2 + (ac_tr (f + 1) (nI k) 21).length < 2 ^ 31) (hj : dyn[j]? = some (dc (nI k) w1 w2 v c rs)) : mi_WC D 7 [.ref 1, .ref (j + 6), .int 21, .int x, .int (nI dp)] (kh n m tc pu stt q dv tk dyn) (fun r' h' => r' = some (.int r) ∧ h' = kh n m tc pu stt (ac_kp (ac_tr (f + 1) (nI k) 21) q) dv tk (dyn.set j (dc (nI k) w1 w2 v2 c2 rs))) := by
  obtain ⟨D, rfl⟩ : ∃ D', D = D' + 1 := ⟨D - 1, by omega⟩
  have ht : ac_tr (f + 1) (nI k) 21 = 21 :: ac_trs (ac_tr f (nI k)) (nI k) 21 [1000, 1104, 85, 1006] := by rw [ac_tr, show ac_tk 21 = some [1000, 1104, 85, 1006] from by decide +kernel]; rfl
  rw [ht] at hn ⊢
  rw [List.length_cons] at hn
  refine mi_WC.of (X := mi_m7) rfl (Nat.le_of_ble_eq_true rfl) ?_
  refine w_iload_n mi_a7_0 rfl ?_
  refine w_if_eq mi_a7_1 11 (by decide) (fun c => absurd c (by decide)) (fun _ => ?_)
  refine w_iload mi_a7_4 rfl ?_
  refine w_bipushv (v := 40) mi_a7_6 (by decide) ?_
  refine w_icmp_le mi_a7_8 13 (by decide) (fun _ => ?_) (fun c => absurd (nI_le (a := dp) (b := 40) (by omega) (by decide)) c)
  refine w_aload_n mi_a7_13 rfl ?_
  refine w_iload_n mi_a7_14 rfl ?_
  refine w_callV mi_a7_15 rfl rfl 1 ⟨rfl, rfl⟩ ⟨Nat.le_of_ble_eq_true rfl, Nat.le_of_ble_eq_true rfl⟩ rfl rfl rfl rfl (mi_WC.mono (s_begin (d := 0) hq (by omega)) (by omega)) ?_
  rintro r' h' ⟨rfl, rfl⟩
  refine w_iload_n mi_a7_18 rfl ?_
  refine w_bipushv (v := 60) mi_a7_19 (by decide) ?_
  refine w_icmp_ge mi_a7_21 36 (by decide) (fun c => absurd c (by decide)) (fun _ => ?_)
  refine w_aload_n mi_a7_24 rfl ?_
  refine w_aload_n mi_a7_25 rfl ?_
  refine w_iload_n mi_a7_26 rfl ?_
  refine w_iload_n mi_a7_27 rfl ?_
  refine w_iload mi_a7_28 rfl ?_
  refine w_iconstv (v := 1) mi_a7_30 (by decide) ?_
  refine w_iaddv mi_a7_31 (nI_succ dp).symm ?_
  refine w_callV mi_a7_32 rfl rfl 4 ⟨rfl, rfl⟩ ⟨Nat.le_of_ble_eq_true rfl, Nat.le_of_ble_eq_true rfl⟩ rfl rfl rfl rfl (bd_21 H (dp := dp + 1) (by omega) hk he (by omega) (by rw [ac_kp_len]; exact hq) (by rw [ac_kp_ran]; simp only [List.length_cons, List.length_nil]; omega) hj) ?_
  rintro r' h' ⟨rfl, rfl⟩
  exact w_ireturn mi_a7_35 rfl ⟨rfl, by rw [ac_kp_cons 21 (ac_trs (ac_tr f (nI k)) (nI k) 21 [1000, 1104, 85, 1006])]⟩
theorem rb_30 {f : Nat} (H : rn_ok f) {D : Nat} {n m tc pu stt : Int32} {q : List Int32 × Nat} {dv tk : List (Option Nat)} {dyn : mi_H} {j dp k : Nat} {x v c r v2 c2 : Int32} {w1 w2 : Value} {rs : List Value} (hD : 3 * (f + 1) + 3 ≤ D) (hk : k < 11) (he : ac_ev (f + 1) (nI k) 30 x v c = some (r, v2, c2)) (hdp : dp + (f + 1) ≤ 41) (hq : q.1.length = 64) (hn : q.2 + (ac_tr (f + 1) (nI k) 30).length < 2 ^ 31) (hj : dyn[j]? = some (dc (nI k) w1 w2 v c rs)) : mi_WC D 7 [.ref 1, .ref (j + 6), .int 30, .int x, .int (nI dp)] (kh n m tc pu stt q dv tk dyn) (fun r' h' => r' = some (.int r) ∧ h' = kh n m tc pu stt (ac_kp (ac_tr (f + 1) (nI k) 30) q) dv tk (dyn.set j (dc (nI k) w1 w2 v2 c2 rs))) := by
  obtain ⟨D, rfl⟩ : ∃ D', D = D' + 1 := ⟨D - 1, by omega⟩
  have ht : ac_tr (f + 1) (nI k) 30 = 30 :: ac_trs (ac_tr f (nI k)) (nI k) 30 [1000, 1314, 1000, 1, 1003, 1326, 1003] := by rw [ac_tr, show ac_tk 30 = some [1000, 1314, 1000, 1, 1003, 1326, 1003] from by decide +kernel]; rfl
  rw [ht] at hn ⊢
  rw [List.length_cons] at hn
  refine mi_WC.of (X := mi_m7) rfl (Nat.le_of_ble_eq_true rfl) ?_
  refine w_iload_n mi_a7_0 rfl ?_
  refine w_if_eq mi_a7_1 11 (by decide) (fun c => absurd c (by decide)) (fun _ => ?_)
  refine w_iload mi_a7_4 rfl ?_
  refine w_bipushv (v := 40) mi_a7_6 (by decide) ?_
  refine w_icmp_le mi_a7_8 13 (by decide) (fun _ => ?_) (fun c => absurd (nI_le (a := dp) (b := 40) (by omega) (by decide)) c)
  refine w_aload_n mi_a7_13 rfl ?_
  refine w_iload_n mi_a7_14 rfl ?_
  refine w_callV mi_a7_15 rfl rfl 1 ⟨rfl, rfl⟩ ⟨Nat.le_of_ble_eq_true rfl, Nat.le_of_ble_eq_true rfl⟩ rfl rfl rfl rfl (mi_WC.mono (s_begin (d := 0) hq (by omega)) (by omega)) ?_
  rintro r' h' ⟨rfl, rfl⟩
  refine w_iload_n mi_a7_18 rfl ?_
  refine w_bipushv (v := 60) mi_a7_19 (by decide) ?_
  refine w_icmp_ge mi_a7_21 36 (by decide) (fun c => absurd c (by decide)) (fun _ => ?_)
  refine w_aload_n mi_a7_24 rfl ?_
  refine w_aload_n mi_a7_25 rfl ?_
  refine w_iload_n mi_a7_26 rfl ?_
  refine w_iload_n mi_a7_27 rfl ?_
  refine w_iload mi_a7_28 rfl ?_
  refine w_iconstv (v := 1) mi_a7_30 (by decide) ?_
  refine w_iaddv mi_a7_31 (nI_succ dp).symm ?_
  refine w_callV mi_a7_32 rfl rfl 4 ⟨rfl, rfl⟩ ⟨Nat.le_of_ble_eq_true rfl, Nat.le_of_ble_eq_true rfl⟩ rfl rfl rfl rfl (bd_30 H (dp := dp + 1) (by omega) hk he (by omega) (by rw [ac_kp_len]; exact hq) (by rw [ac_kp_ran]; simp only [List.length_cons, List.length_nil]; omega) hj) ?_
  rintro r' h' ⟨rfl, rfl⟩
  exact w_ireturn mi_a7_35 rfl ⟨rfl, by rw [ac_kp_cons 30 (ac_trs (ac_tr f (nI k)) (nI k) 30 [1000, 1314, 1000, 1, 1003, 1326, 1003])]⟩
theorem rb_40 {f : Nat} (H : rn_ok f) {D : Nat} {n m tc pu stt : Int32} {q : List Int32 × Nat} {dv tk : List (Option Nat)} {dyn : mi_H} {j dp k : Nat} {x v c r v2 c2 : Int32} {w1 w2 : Value} {rs : List Value} (hD : 3 * (f + 1) + 3 ≤ D) (hk : k < 11) (he : ac_ev (f + 1) (nI k) 40 x v c = some (r, v2, c2)) (hdp : dp + (f + 1) ≤ 41) (hq : q.1.length = 64) (hn : q.2 + (ac_tr (f + 1) (nI k) 40).length < 2 ^ 31) (hj : dyn[j]? = some (dc (nI k) w1 w2 v c rs)) : mi_WC D 7 [.ref 1, .ref (j + 6), .int 40, .int x, .int (nI dp)] (kh n m tc pu stt q dv tk dyn) (fun r' h' => r' = some (.int r) ∧ h' = kh n m tc pu stt (ac_kp (ac_tr (f + 1) (nI k) 40) q) dv tk (dyn.set j (dc (nI k) w1 w2 v2 c2 rs))) := by
  obtain ⟨D, rfl⟩ : ∃ D', D = D' + 1 := ⟨D - 1, by omega⟩
  have ht : ac_tr (f + 1) (nI k) 40 = 40 :: ac_trs (ac_tr f (nI k)) (nI k) 40 [1000, 1105, 1000, 1003] := by rw [ac_tr, show ac_tk 40 = some [1000, 1105, 1000, 1003] from by decide +kernel]; rfl
  rw [ht] at hn ⊢
  rw [List.length_cons] at hn
  refine mi_WC.of (X := mi_m7) rfl (Nat.le_of_ble_eq_true rfl) ?_
  refine w_iload_n mi_a7_0 rfl ?_
  refine w_if_eq mi_a7_1 11 (by decide) (fun c => absurd c (by decide)) (fun _ => ?_)
  refine w_iload mi_a7_4 rfl ?_
  refine w_bipushv (v := 40) mi_a7_6 (by decide) ?_
  refine w_icmp_le mi_a7_8 13 (by decide) (fun _ => ?_) (fun c => absurd (nI_le (a := dp) (b := 40) (by omega) (by decide)) c)
  refine w_aload_n mi_a7_13 rfl ?_
  refine w_iload_n mi_a7_14 rfl ?_
  refine w_callV mi_a7_15 rfl rfl 1 ⟨rfl, rfl⟩ ⟨Nat.le_of_ble_eq_true rfl, Nat.le_of_ble_eq_true rfl⟩ rfl rfl rfl rfl (mi_WC.mono (s_begin (d := 0) hq (by omega)) (by omega)) ?_
  rintro r' h' ⟨rfl, rfl⟩
  refine w_iload_n mi_a7_18 rfl ?_
  refine w_bipushv (v := 60) mi_a7_19 (by decide) ?_
  refine w_icmp_ge mi_a7_21 36 (by decide) (fun c => absurd c (by decide)) (fun _ => ?_)
  refine w_aload_n mi_a7_24 rfl ?_
  refine w_aload_n mi_a7_25 rfl ?_
  refine w_iload_n mi_a7_26 rfl ?_
  refine w_iload_n mi_a7_27 rfl ?_
  refine w_iload mi_a7_28 rfl ?_
  refine w_iconstv (v := 1) mi_a7_30 (by decide) ?_
  refine w_iaddv mi_a7_31 (nI_succ dp).symm ?_
  refine w_callV mi_a7_32 rfl rfl 4 ⟨rfl, rfl⟩ ⟨Nat.le_of_ble_eq_true rfl, Nat.le_of_ble_eq_true rfl⟩ rfl rfl rfl rfl (bd_40 H (dp := dp + 1) (by omega) hk he (by omega) (by rw [ac_kp_len]; exact hq) (by rw [ac_kp_ran]; simp only [List.length_cons, List.length_nil]; omega) hj) ?_
  rintro r' h' ⟨rfl, rfl⟩
  exact w_ireturn mi_a7_35 rfl ⟨rfl, by rw [ac_kp_cons 40 (ac_trs (ac_tr f (nI k)) (nI k) 40 [1000, 1105, 1000, 1003])]⟩
theorem rb_41 {f : Nat} (H : rn_ok f) {D : Nat} {n m tc pu stt : Int32} {q : List Int32 × Nat} {dv tk : List (Option Nat)} {dyn : mi_H} {j dp k : Nat} {x v c r v2 c2 : Int32} {w1 w2 : Value} {rs : List Value} (hD : 3 * (f + 1) + 3 ≤ D) (hk : k < 11) (he : ac_ev (f + 1) (nI k) 41 x v c = some (r, v2, c2)) (hdp : dp + (f + 1) ≤ 41) (hq : q.1.length = 64) (hn : q.2 + (ac_tr (f + 1) (nI k) 41).length < 2 ^ 31) (hj : dyn[j]? = some (dc (nI k) w1 w2 v c rs)) : mi_WC D 7 [.ref 1, .ref (j + 6), .int 41, .int x, .int (nI dp)] (kh n m tc pu stt q dv tk dyn) (fun r' h' => r' = some (.int r) ∧ h' = kh n m tc pu stt (ac_kp (ac_tr (f + 1) (nI k) 41) q) dv tk (dyn.set j (dc (nI k) w1 w2 v2 c2 rs))) := by
  obtain ⟨D, rfl⟩ : ∃ D', D = D' + 1 := ⟨D - 1, by omega⟩
  have ht : ac_tr (f + 1) (nI k) 41 = 41 :: ac_trs (ac_tr f (nI k)) (nI k) 41 [1000, 1106, 2, 1005, 1, 1106, 1003] := by rw [ac_tr, show ac_tk 41 = some [1000, 1106, 2, 1005, 1, 1106, 1003] from by decide +kernel]; rfl
  rw [ht] at hn ⊢
  rw [List.length_cons] at hn
  refine mi_WC.of (X := mi_m7) rfl (Nat.le_of_ble_eq_true rfl) ?_
  refine w_iload_n mi_a7_0 rfl ?_
  refine w_if_eq mi_a7_1 11 (by decide) (fun c => absurd c (by decide)) (fun _ => ?_)
  refine w_iload mi_a7_4 rfl ?_
  refine w_bipushv (v := 40) mi_a7_6 (by decide) ?_
  refine w_icmp_le mi_a7_8 13 (by decide) (fun _ => ?_) (fun c => absurd (nI_le (a := dp) (b := 40) (by omega) (by decide)) c)
  refine w_aload_n mi_a7_13 rfl ?_
  refine w_iload_n mi_a7_14 rfl ?_
  refine w_callV mi_a7_15 rfl rfl 1 ⟨rfl, rfl⟩ ⟨Nat.le_of_ble_eq_true rfl, Nat.le_of_ble_eq_true rfl⟩ rfl rfl rfl rfl (mi_WC.mono (s_begin (d := 0) hq (by omega)) (by omega)) ?_
  rintro r' h' ⟨rfl, rfl⟩
  refine w_iload_n mi_a7_18 rfl ?_
  refine w_bipushv (v := 60) mi_a7_19 (by decide) ?_
  refine w_icmp_ge mi_a7_21 36 (by decide) (fun c => absurd c (by decide)) (fun _ => ?_)
  refine w_aload_n mi_a7_24 rfl ?_
  refine w_aload_n mi_a7_25 rfl ?_
  refine w_iload_n mi_a7_26 rfl ?_
  refine w_iload_n mi_a7_27 rfl ?_
  refine w_iload mi_a7_28 rfl ?_
  refine w_iconstv (v := 1) mi_a7_30 (by decide) ?_
  refine w_iaddv mi_a7_31 (nI_succ dp).symm ?_
  refine w_callV mi_a7_32 rfl rfl 4 ⟨rfl, rfl⟩ ⟨Nat.le_of_ble_eq_true rfl, Nat.le_of_ble_eq_true rfl⟩ rfl rfl rfl rfl (bd_41 H (dp := dp + 1) (by omega) hk he (by omega) (by rw [ac_kp_len]; exact hq) (by rw [ac_kp_ran]; simp only [List.length_cons, List.length_nil]; omega) hj) ?_
  rintro r' h' ⟨rfl, rfl⟩
  exact w_ireturn mi_a7_35 rfl ⟨rfl, by rw [ac_kp_cons 41 (ac_trs (ac_tr f (nI k)) (nI k) 41 [1000, 1106, 2, 1005, 1, 1106, 1003])]⟩
theorem rb_50 {f : Nat} (H : rn_ok f) {D : Nat} {n m tc pu stt : Int32} {q : List Int32 × Nat} {dv tk : List (Option Nat)} {dyn : mi_H} {j dp k : Nat} {x v c r v2 c2 : Int32} {w1 w2 : Value} {rs : List Value} (hD : 3 * (f + 1) + 3 ≤ D) (hk : k < 11) (he : ac_ev (f + 1) (nI k) 50 x v c = some (r, v2, c2)) (hdp : dp + (f + 1) ≤ 41) (hq : q.1.length = 64) (hn : q.2 + (ac_tr (f + 1) (nI k) 50).length < 2 ^ 31) (hj : dyn[j]? = some (dc (nI k) w1 w2 v c rs)) : mi_WC D 7 [.ref 1, .ref (j + 6), .int 50, .int x, .int (nI dp)] (kh n m tc pu stt q dv tk dyn) (fun r' h' => r' = some (.int r) ∧ h' = kh n m tc pu stt (ac_kp (ac_tr (f + 1) (nI k) 50) q) dv tk (dyn.set j (dc (nI k) w1 w2 v2 c2 rs))) := by
  obtain ⟨D, rfl⟩ : ∃ D', D = D' + 1 := ⟨D - 1, by omega⟩
  have ht : ac_tr (f + 1) (nI k) 50 = 50 :: ac_trs (ac_tr f (nI k)) (nI k) 50 [1000, 1355, 1000, 1108, 1004] := by rw [ac_tr, show ac_tk 50 = some [1000, 1355, 1000, 1108, 1004] from by decide +kernel]; rfl
  rw [ht] at hn ⊢
  rw [List.length_cons] at hn
  refine mi_WC.of (X := mi_m7) rfl (Nat.le_of_ble_eq_true rfl) ?_
  refine w_iload_n mi_a7_0 rfl ?_
  refine w_if_eq mi_a7_1 11 (by decide) (fun c => absurd c (by decide)) (fun _ => ?_)
  refine w_iload mi_a7_4 rfl ?_
  refine w_bipushv (v := 40) mi_a7_6 (by decide) ?_
  refine w_icmp_le mi_a7_8 13 (by decide) (fun _ => ?_) (fun c => absurd (nI_le (a := dp) (b := 40) (by omega) (by decide)) c)
  refine w_aload_n mi_a7_13 rfl ?_
  refine w_iload_n mi_a7_14 rfl ?_
  refine w_callV mi_a7_15 rfl rfl 1 ⟨rfl, rfl⟩ ⟨Nat.le_of_ble_eq_true rfl, Nat.le_of_ble_eq_true rfl⟩ rfl rfl rfl rfl (mi_WC.mono (s_begin (d := 0) hq (by omega)) (by omega)) ?_
  rintro r' h' ⟨rfl, rfl⟩
  refine w_iload_n mi_a7_18 rfl ?_
  refine w_bipushv (v := 60) mi_a7_19 (by decide) ?_
  refine w_icmp_ge mi_a7_21 36 (by decide) (fun c => absurd c (by decide)) (fun _ => ?_)
  refine w_aload_n mi_a7_24 rfl ?_
  refine w_aload_n mi_a7_25 rfl ?_
  refine w_iload_n mi_a7_26 rfl ?_
  refine w_iload_n mi_a7_27 rfl ?_
  refine w_iload mi_a7_28 rfl ?_
  refine w_iconstv (v := 1) mi_a7_30 (by decide) ?_
  refine w_iaddv mi_a7_31 (nI_succ dp).symm ?_
  refine w_callV mi_a7_32 rfl rfl 4 ⟨rfl, rfl⟩ ⟨Nat.le_of_ble_eq_true rfl, Nat.le_of_ble_eq_true rfl⟩ rfl rfl rfl rfl (bd_50 H (dp := dp + 1) (by omega) hk he (by omega) (by rw [ac_kp_len]; exact hq) (by rw [ac_kp_ran]; simp only [List.length_cons, List.length_nil]; omega) hj) ?_
  rintro r' h' ⟨rfl, rfl⟩
  exact w_ireturn mi_a7_35 rfl ⟨rfl, by rw [ac_kp_cons 50 (ac_trs (ac_tr f (nI k)) (nI k) 50 [1000, 1355, 1000, 1108, 1004])]⟩
theorem rb_51 {f : Nat} (H : rn_ok f) {D : Nat} {n m tc pu stt : Int32} {q : List Int32 × Nat} {dv tk : List (Option Nat)} {dyn : mi_H} {j dp k : Nat} {x v c r v2 c2 : Int32} {w1 w2 : Value} {rs : List Value} (hD : 3 * (f + 1) + 3 ≤ D) (hk : k < 11) (he : ac_ev (f + 1) (nI k) 51 x v c = some (r, v2, c2)) (hdp : dp + (f + 1) ≤ 41) (hq : q.1.length = 64) (hn : q.2 + (ac_tr (f + 1) (nI k) 51).length < 2 ^ 31) (hj : dyn[j]? = some (dc (nI k) w1 w2 v c rs)) : mi_WC D 7 [.ref 1, .ref (j + 6), .int 51, .int x, .int (nI dp)] (kh n m tc pu stt q dv tk dyn) (fun r' h' => r' = some (.int r) ∧ h' = kh n m tc pu stt (ac_kp (ac_tr (f + 1) (nI k) 51) q) dv tk (dyn.set j (dc (nI k) w1 w2 v2 c2 rs))) := by
  obtain ⟨D, rfl⟩ : ∃ D', D = D' + 1 := ⟨D - 1, by omega⟩
  have ht : ac_tr (f + 1) (nI k) 51 = 51 :: ac_trs (ac_tr f (nI k)) (nI k) 51 [1000, 2052, 2, 1105, 1003] := by rw [ac_tr, show ac_tk 51 = some [1000, 2052, 2, 1105, 1003] from by decide +kernel]; rfl
  rw [ht] at hn ⊢
  rw [List.length_cons] at hn
  refine mi_WC.of (X := mi_m7) rfl (Nat.le_of_ble_eq_true rfl) ?_
  refine w_iload_n mi_a7_0 rfl ?_
  refine w_if_eq mi_a7_1 11 (by decide) (fun c => absurd c (by decide)) (fun _ => ?_)
  refine w_iload mi_a7_4 rfl ?_
  refine w_bipushv (v := 40) mi_a7_6 (by decide) ?_
  refine w_icmp_le mi_a7_8 13 (by decide) (fun _ => ?_) (fun c => absurd (nI_le (a := dp) (b := 40) (by omega) (by decide)) c)
  refine w_aload_n mi_a7_13 rfl ?_
  refine w_iload_n mi_a7_14 rfl ?_
  refine w_callV mi_a7_15 rfl rfl 1 ⟨rfl, rfl⟩ ⟨Nat.le_of_ble_eq_true rfl, Nat.le_of_ble_eq_true rfl⟩ rfl rfl rfl rfl (mi_WC.mono (s_begin (d := 0) hq (by omega)) (by omega)) ?_
  rintro r' h' ⟨rfl, rfl⟩
  refine w_iload_n mi_a7_18 rfl ?_
  refine w_bipushv (v := 60) mi_a7_19 (by decide) ?_
  refine w_icmp_ge mi_a7_21 36 (by decide) (fun c => absurd c (by decide)) (fun _ => ?_)
  refine w_aload_n mi_a7_24 rfl ?_
  refine w_aload_n mi_a7_25 rfl ?_
  refine w_iload_n mi_a7_26 rfl ?_
  refine w_iload_n mi_a7_27 rfl ?_
  refine w_iload mi_a7_28 rfl ?_
  refine w_iconstv (v := 1) mi_a7_30 (by decide) ?_
  refine w_iaddv mi_a7_31 (nI_succ dp).symm ?_
  refine w_callV mi_a7_32 rfl rfl 4 ⟨rfl, rfl⟩ ⟨Nat.le_of_ble_eq_true rfl, Nat.le_of_ble_eq_true rfl⟩ rfl rfl rfl rfl (bd_51 H (dp := dp + 1) (by omega) hk he (by omega) (by rw [ac_kp_len]; exact hq) (by rw [ac_kp_ran]; simp only [List.length_cons, List.length_nil]; omega) hj) ?_
  rintro r' h' ⟨rfl, rfl⟩
  exact w_ireturn mi_a7_35 rfl ⟨rfl, by rw [ac_kp_cons 51 (ac_trs (ac_tr f (nI k)) (nI k) 51 [1000, 2052, 2, 1105, 1003])]⟩
theorem rb_52 {f : Nat} (H : rn_ok f) {D : Nat} {n m tc pu stt : Int32} {q : List Int32 × Nat} {dv tk : List (Option Nat)} {dyn : mi_H} {j dp k : Nat} {x v c r v2 c2 : Int32} {w1 w2 : Value} {rs : List Value} (hD : 3 * (f + 1) + 3 ≤ D) (hk : k < 11) (he : ac_ev (f + 1) (nI k) 52 x v c = some (r, v2, c2)) (hdp : dp + (f + 1) ≤ 41) (hq : q.1.length = 64) (hn : q.2 + (ac_tr (f + 1) (nI k) 52).length < 2 ^ 31) (hj : dyn[j]? = some (dc (nI k) w1 w2 v c rs)) : mi_WC D 7 [.ref 1, .ref (j + 6), .int 52, .int x, .int (nI dp)] (kh n m tc pu stt q dv tk dyn) (fun r' h' => r' = some (.int r) ∧ h' = kh n m tc pu stt (ac_kp (ac_tr (f + 1) (nI k) 52) q) dv tk (dyn.set j (dc (nI k) w1 w2 v2 c2 rs))) := by
  obtain ⟨D, rfl⟩ : ∃ D', D = D' + 1 := ⟨D - 1, by omega⟩
  have ht : ac_tr (f + 1) (nI k) 52 = 52 :: ac_trs (ac_tr f (nI k)) (nI k) 52 [1000, 1105, 5, 1005] := by rw [ac_tr, show ac_tk 52 = some [1000, 1105, 5, 1005] from by decide +kernel]; rfl
  rw [ht] at hn ⊢
  rw [List.length_cons] at hn
  refine mi_WC.of (X := mi_m7) rfl (Nat.le_of_ble_eq_true rfl) ?_
  refine w_iload_n mi_a7_0 rfl ?_
  refine w_if_eq mi_a7_1 11 (by decide) (fun c => absurd c (by decide)) (fun _ => ?_)
  refine w_iload mi_a7_4 rfl ?_
  refine w_bipushv (v := 40) mi_a7_6 (by decide) ?_
  refine w_icmp_le mi_a7_8 13 (by decide) (fun _ => ?_) (fun c => absurd (nI_le (a := dp) (b := 40) (by omega) (by decide)) c)
  refine w_aload_n mi_a7_13 rfl ?_
  refine w_iload_n mi_a7_14 rfl ?_
  refine w_callV mi_a7_15 rfl rfl 1 ⟨rfl, rfl⟩ ⟨Nat.le_of_ble_eq_true rfl, Nat.le_of_ble_eq_true rfl⟩ rfl rfl rfl rfl (mi_WC.mono (s_begin (d := 0) hq (by omega)) (by omega)) ?_
  rintro r' h' ⟨rfl, rfl⟩
  refine w_iload_n mi_a7_18 rfl ?_
  refine w_bipushv (v := 60) mi_a7_19 (by decide) ?_
  refine w_icmp_ge mi_a7_21 36 (by decide) (fun c => absurd c (by decide)) (fun _ => ?_)
  refine w_aload_n mi_a7_24 rfl ?_
  refine w_aload_n mi_a7_25 rfl ?_
  refine w_iload_n mi_a7_26 rfl ?_
  refine w_iload_n mi_a7_27 rfl ?_
  refine w_iload mi_a7_28 rfl ?_
  refine w_iconstv (v := 1) mi_a7_30 (by decide) ?_
  refine w_iaddv mi_a7_31 (nI_succ dp).symm ?_
  refine w_callV mi_a7_32 rfl rfl 4 ⟨rfl, rfl⟩ ⟨Nat.le_of_ble_eq_true rfl, Nat.le_of_ble_eq_true rfl⟩ rfl rfl rfl rfl (bd_52 H (dp := dp + 1) (by omega) hk he (by omega) (by rw [ac_kp_len]; exact hq) (by rw [ac_kp_ran]; simp only [List.length_cons, List.length_nil]; omega) hj) ?_
  rintro r' h' ⟨rfl, rfl⟩
  exact w_ireturn mi_a7_35 rfl ⟨rfl, by rw [ac_kp_cons 52 (ac_trs (ac_tr f (nI k)) (nI k) 52 [1000, 1105, 5, 1005])]⟩
theorem rb_60 {f : Nat} (H : rn_ok f) {D : Nat} {n m tc pu stt : Int32} {q : List Int32 × Nat} {dv tk : List (Option Nat)} {dyn : mi_H} {j dp k : Nat} {x v c r v2 c2 : Int32} {w1 w2 : Value} {rs : List Value} (hD : 3 * (f + 1) + 3 ≤ D) (hk : k < 11) (he : ac_ev (f + 1) (nI k) 60 x v c = some (r, v2, c2)) (hdp : dp + (f + 1) ≤ 41) (hq : q.1.length = 64) (hn : q.2 + (ac_tr (f + 1) (nI k) 60).length < 2 ^ 31) (hj : dyn[j]? = some (dc (nI k) w1 w2 v c rs)) : mi_WC D 7 [.ref 1, .ref (j + 6), .int 60, .int x, .int (nI dp)] (kh n m tc pu stt q dv tk dyn) (fun r' h' => r' = some (.int r) ∧ h' = kh n m tc pu stt (ac_kp (ac_tr (f + 1) (nI k) 60) q) dv tk (dyn.set j (dc (nI k) w1 w2 v2 c2 rs))) := by
  obtain ⟨D, rfl⟩ : ∃ D', D = D' + 1 := ⟨D - 1, by omega⟩
  have ht : ac_tr (f + 1) (nI k) 60 = 60 :: ac_trs (ac_tr f (nI k)) (nI k) 60 [1001, 1000, 1003, 1008, 1001] := by rw [ac_tr, show ac_tk 60 = some [1001, 1000, 1003, 1008, 1001] from by decide +kernel]; rfl
  rw [ht] at hn ⊢
  rw [List.length_cons] at hn
  refine mi_WC.of (X := mi_m7) rfl (Nat.le_of_ble_eq_true rfl) ?_
  refine w_iload_n mi_a7_0 rfl ?_
  refine w_if_eq mi_a7_1 11 (by decide) (fun c => absurd c (by decide)) (fun _ => ?_)
  refine w_iload mi_a7_4 rfl ?_
  refine w_bipushv (v := 40) mi_a7_6 (by decide) ?_
  refine w_icmp_le mi_a7_8 13 (by decide) (fun _ => ?_) (fun c => absurd (nI_le (a := dp) (b := 40) (by omega) (by decide)) c)
  refine w_aload_n mi_a7_13 rfl ?_
  refine w_iload_n mi_a7_14 rfl ?_
  refine w_callV mi_a7_15 rfl rfl 1 ⟨rfl, rfl⟩ ⟨Nat.le_of_ble_eq_true rfl, Nat.le_of_ble_eq_true rfl⟩ rfl rfl rfl rfl (mi_WC.mono (s_begin (d := 0) hq (by omega)) (by omega)) ?_
  rintro r' h' ⟨rfl, rfl⟩
  refine w_iload_n mi_a7_18 rfl ?_
  refine w_bipushv (v := 60) mi_a7_19 (by decide) ?_
  refine w_icmp_ge mi_a7_21 36 (by decide) (fun _ => ?_) (fun c => absurd c (by decide))
  refine w_iload_n mi_a7_36 rfl ?_
  refine w_bipushv (v := 100) mi_a7_37 (by decide) ?_
  refine w_icmp_ge mi_a7_39 54 (by decide) (fun c => absurd c (by decide)) (fun _ => ?_)
  refine w_aload_n mi_a7_42 rfl ?_
  refine w_aload_n mi_a7_43 rfl ?_
  refine w_iload_n mi_a7_44 rfl ?_
  refine w_iload_n mi_a7_45 rfl ?_
  refine w_iload mi_a7_46 rfl ?_
  refine w_iconstv (v := 1) mi_a7_48 (by decide) ?_
  refine w_iaddv mi_a7_49 (nI_succ dp).symm ?_
  refine w_callV mi_a7_50 rfl rfl 4 ⟨rfl, rfl⟩ ⟨Nat.le_of_ble_eq_true rfl, Nat.le_of_ble_eq_true rfl⟩ rfl rfl rfl rfl (bd_60 H (dp := dp + 1) (by omega) hk he (by omega) (by rw [ac_kp_len]; exact hq) (by rw [ac_kp_ran]; simp only [List.length_cons, List.length_nil]; omega) hj) ?_
  rintro r' h' ⟨rfl, rfl⟩
  exact w_ireturn mi_a7_53 rfl ⟨rfl, by rw [ac_kp_cons 60 (ac_trs (ac_tr f (nI k)) (nI k) 60 [1001, 1000, 1003, 1008, 1001])]⟩
theorem rb_61 {f : Nat} (H : rn_ok f) {D : Nat} {n m tc pu stt : Int32} {q : List Int32 × Nat} {dv tk : List (Option Nat)} {dyn : mi_H} {j dp k : Nat} {x v c r v2 c2 : Int32} {w1 w2 : Value} {rs : List Value} (hD : 3 * (f + 1) + 3 ≤ D) (hk : k < 11) (he : ac_ev (f + 1) (nI k) 61 x v c = some (r, v2, c2)) (hdp : dp + (f + 1) ≤ 41) (hq : q.1.length = 64) (hn : q.2 + (ac_tr (f + 1) (nI k) 61).length < 2 ^ 31) (hj : dyn[j]? = some (dc (nI k) w1 w2 v c rs)) : mi_WC D 7 [.ref 1, .ref (j + 6), .int 61, .int x, .int (nI dp)] (kh n m tc pu stt q dv tk dyn) (fun r' h' => r' = some (.int r) ∧ h' = kh n m tc pu stt (ac_kp (ac_tr (f + 1) (nI k) 61) q) dv tk (dyn.set j (dc (nI k) w1 w2 v2 c2 rs))) := by
  obtain ⟨D, rfl⟩ : ∃ D', D = D' + 1 := ⟨D - 1, by omega⟩
  have ht : ac_tr (f + 1) (nI k) 61 = 61 :: ac_trs (ac_tr f (nI k)) (nI k) 61 [1001, 3, 1000, 1005, 1004, 1008, 1001] := by rw [ac_tr, show ac_tk 61 = some [1001, 3, 1000, 1005, 1004, 1008, 1001] from by decide +kernel]; rfl
  rw [ht] at hn ⊢
  rw [List.length_cons] at hn
  refine mi_WC.of (X := mi_m7) rfl (Nat.le_of_ble_eq_true rfl) ?_
  refine w_iload_n mi_a7_0 rfl ?_
  refine w_if_eq mi_a7_1 11 (by decide) (fun c => absurd c (by decide)) (fun _ => ?_)
  refine w_iload mi_a7_4 rfl ?_
  refine w_bipushv (v := 40) mi_a7_6 (by decide) ?_
  refine w_icmp_le mi_a7_8 13 (by decide) (fun _ => ?_) (fun c => absurd (nI_le (a := dp) (b := 40) (by omega) (by decide)) c)
  refine w_aload_n mi_a7_13 rfl ?_
  refine w_iload_n mi_a7_14 rfl ?_
  refine w_callV mi_a7_15 rfl rfl 1 ⟨rfl, rfl⟩ ⟨Nat.le_of_ble_eq_true rfl, Nat.le_of_ble_eq_true rfl⟩ rfl rfl rfl rfl (mi_WC.mono (s_begin (d := 0) hq (by omega)) (by omega)) ?_
  rintro r' h' ⟨rfl, rfl⟩
  refine w_iload_n mi_a7_18 rfl ?_
  refine w_bipushv (v := 60) mi_a7_19 (by decide) ?_
  refine w_icmp_ge mi_a7_21 36 (by decide) (fun _ => ?_) (fun c => absurd c (by decide))
  refine w_iload_n mi_a7_36 rfl ?_
  refine w_bipushv (v := 100) mi_a7_37 (by decide) ?_
  refine w_icmp_ge mi_a7_39 54 (by decide) (fun c => absurd c (by decide)) (fun _ => ?_)
  refine w_aload_n mi_a7_42 rfl ?_
  refine w_aload_n mi_a7_43 rfl ?_
  refine w_iload_n mi_a7_44 rfl ?_
  refine w_iload_n mi_a7_45 rfl ?_
  refine w_iload mi_a7_46 rfl ?_
  refine w_iconstv (v := 1) mi_a7_48 (by decide) ?_
  refine w_iaddv mi_a7_49 (nI_succ dp).symm ?_
  refine w_callV mi_a7_50 rfl rfl 4 ⟨rfl, rfl⟩ ⟨Nat.le_of_ble_eq_true rfl, Nat.le_of_ble_eq_true rfl⟩ rfl rfl rfl rfl (bd_61 H (dp := dp + 1) (by omega) hk he (by omega) (by rw [ac_kp_len]; exact hq) (by rw [ac_kp_ran]; simp only [List.length_cons, List.length_nil]; omega) hj) ?_
  rintro r' h' ⟨rfl, rfl⟩
  exact w_ireturn mi_a7_53 rfl ⟨rfl, by rw [ac_kp_cons 61 (ac_trs (ac_tr f (nI k)) (nI k) 61 [1001, 3, 1000, 1005, 1004, 1008, 1001])]⟩
theorem rb_62 {f : Nat} (H : rn_ok f) {D : Nat} {n m tc pu stt : Int32} {q : List Int32 × Nat} {dv tk : List (Option Nat)} {dyn : mi_H} {j dp k : Nat} {x v c r v2 c2 : Int32} {w1 w2 : Value} {rs : List Value} (hD : 3 * (f + 1) + 3 ≤ D) (hk : k < 11) (he : ac_ev (f + 1) (nI k) 62 x v c = some (r, v2, c2)) (hdp : dp + (f + 1) ≤ 41) (hq : q.1.length = 64) (hn : q.2 + (ac_tr (f + 1) (nI k) 62).length < 2 ^ 31) (hj : dyn[j]? = some (dc (nI k) w1 w2 v c rs)) : mi_WC D 7 [.ref 1, .ref (j + 6), .int 62, .int x, .int (nI dp)] (kh n m tc pu stt q dv tk dyn) (fun r' h' => r' = some (.int r) ∧ h' = kh n m tc pu stt (ac_kp (ac_tr (f + 1) (nI k) 62) q) dv tk (dyn.set j (dc (nI k) w1 w2 v2 c2 rs))) := by
  obtain ⟨D, rfl⟩ : ∃ D', D = D' + 1 := ⟨D - 1, by omega⟩
  have ht : ac_tr (f + 1) (nI k) 62 = 62 :: ac_trs (ac_tr f (nI k)) (nI k) 62 [1001, 31, 1005, 1000, 1003, 1008, 1001] := by rw [ac_tr, show ac_tk 62 = some [1001, 31, 1005, 1000, 1003, 1008, 1001] from by decide +kernel]; rfl
  rw [ht] at hn ⊢
  rw [List.length_cons] at hn
  refine mi_WC.of (X := mi_m7) rfl (Nat.le_of_ble_eq_true rfl) ?_
  refine w_iload_n mi_a7_0 rfl ?_
  refine w_if_eq mi_a7_1 11 (by decide) (fun c => absurd c (by decide)) (fun _ => ?_)
  refine w_iload mi_a7_4 rfl ?_
  refine w_bipushv (v := 40) mi_a7_6 (by decide) ?_
  refine w_icmp_le mi_a7_8 13 (by decide) (fun _ => ?_) (fun c => absurd (nI_le (a := dp) (b := 40) (by omega) (by decide)) c)
  refine w_aload_n mi_a7_13 rfl ?_
  refine w_iload_n mi_a7_14 rfl ?_
  refine w_callV mi_a7_15 rfl rfl 1 ⟨rfl, rfl⟩ ⟨Nat.le_of_ble_eq_true rfl, Nat.le_of_ble_eq_true rfl⟩ rfl rfl rfl rfl (mi_WC.mono (s_begin (d := 0) hq (by omega)) (by omega)) ?_
  rintro r' h' ⟨rfl, rfl⟩
  refine w_iload_n mi_a7_18 rfl ?_
  refine w_bipushv (v := 60) mi_a7_19 (by decide) ?_
  refine w_icmp_ge mi_a7_21 36 (by decide) (fun _ => ?_) (fun c => absurd c (by decide))
  refine w_iload_n mi_a7_36 rfl ?_
  refine w_bipushv (v := 100) mi_a7_37 (by decide) ?_
  refine w_icmp_ge mi_a7_39 54 (by decide) (fun c => absurd c (by decide)) (fun _ => ?_)
  refine w_aload_n mi_a7_42 rfl ?_
  refine w_aload_n mi_a7_43 rfl ?_
  refine w_iload_n mi_a7_44 rfl ?_
  refine w_iload_n mi_a7_45 rfl ?_
  refine w_iload mi_a7_46 rfl ?_
  refine w_iconstv (v := 1) mi_a7_48 (by decide) ?_
  refine w_iaddv mi_a7_49 (nI_succ dp).symm ?_
  refine w_callV mi_a7_50 rfl rfl 4 ⟨rfl, rfl⟩ ⟨Nat.le_of_ble_eq_true rfl, Nat.le_of_ble_eq_true rfl⟩ rfl rfl rfl rfl (bd_62 H (dp := dp + 1) (by omega) hk he (by omega) (by rw [ac_kp_len]; exact hq) (by rw [ac_kp_ran]; simp only [List.length_cons, List.length_nil]; omega) hj) ?_
  rintro r' h' ⟨rfl, rfl⟩
  exact w_ireturn mi_a7_53 rfl ⟨rfl, by rw [ac_kp_cons 62 (ac_trs (ac_tr f (nI k)) (nI k) 62 [1001, 31, 1005, 1000, 1003, 1008, 1001])]⟩
theorem rb_63 {f : Nat} (H : rn_ok f) {D : Nat} {n m tc pu stt : Int32} {q : List Int32 × Nat} {dv tk : List (Option Nat)} {dyn : mi_H} {j dp k : Nat} {x v c r v2 c2 : Int32} {w1 w2 : Value} {rs : List Value} (hD : 3 * (f + 1) + 3 ≤ D) (hk : k < 11) (he : ac_ev (f + 1) (nI k) 63 x v c = some (r, v2, c2)) (hdp : dp + (f + 1) ≤ 41) (hq : q.1.length = 64) (hn : q.2 + (ac_tr (f + 1) (nI k) 63).length < 2 ^ 31) (hj : dyn[j]? = some (dc (nI k) w1 w2 v c rs)) : mi_WC D 7 [.ref 1, .ref (j + 6), .int 63, .int x, .int (nI dp)] (kh n m tc pu stt q dv tk dyn) (fun r' h' => r' = some (.int r) ∧ h' = kh n m tc pu stt (ac_kp (ac_tr (f + 1) (nI k) 63) q) dv tk (dyn.set j (dc (nI k) w1 w2 v2 c2 rs))) := by
  obtain ⟨D, rfl⟩ : ∃ D', D = D' + 1 := ⟨D - 1, by omega⟩
  have ht : ac_tr (f + 1) (nI k) 63 = 63 :: ac_trs (ac_tr f (nI k)) (nI k) 63 [1001, 1000, 1006] := by rw [ac_tr, show ac_tk 63 = some [1001, 1000, 1006] from by decide +kernel]; rfl
  rw [ht] at hn ⊢
  rw [List.length_cons] at hn
  refine mi_WC.of (X := mi_m7) rfl (Nat.le_of_ble_eq_true rfl) ?_
  refine w_iload_n mi_a7_0 rfl ?_
  refine w_if_eq mi_a7_1 11 (by decide) (fun c => absurd c (by decide)) (fun _ => ?_)
  refine w_iload mi_a7_4 rfl ?_
  refine w_bipushv (v := 40) mi_a7_6 (by decide) ?_
  refine w_icmp_le mi_a7_8 13 (by decide) (fun _ => ?_) (fun c => absurd (nI_le (a := dp) (b := 40) (by omega) (by decide)) c)
  refine w_aload_n mi_a7_13 rfl ?_
  refine w_iload_n mi_a7_14 rfl ?_
  refine w_callV mi_a7_15 rfl rfl 1 ⟨rfl, rfl⟩ ⟨Nat.le_of_ble_eq_true rfl, Nat.le_of_ble_eq_true rfl⟩ rfl rfl rfl rfl (mi_WC.mono (s_begin (d := 0) hq (by omega)) (by omega)) ?_
  rintro r' h' ⟨rfl, rfl⟩
  refine w_iload_n mi_a7_18 rfl ?_
  refine w_bipushv (v := 60) mi_a7_19 (by decide) ?_
  refine w_icmp_ge mi_a7_21 36 (by decide) (fun _ => ?_) (fun c => absurd c (by decide))
  refine w_iload_n mi_a7_36 rfl ?_
  refine w_bipushv (v := 100) mi_a7_37 (by decide) ?_
  refine w_icmp_ge mi_a7_39 54 (by decide) (fun c => absurd c (by decide)) (fun _ => ?_)
  refine w_aload_n mi_a7_42 rfl ?_
  refine w_aload_n mi_a7_43 rfl ?_
  refine w_iload_n mi_a7_44 rfl ?_
  refine w_iload_n mi_a7_45 rfl ?_
  refine w_iload mi_a7_46 rfl ?_
  refine w_iconstv (v := 1) mi_a7_48 (by decide) ?_
  refine w_iaddv mi_a7_49 (nI_succ dp).symm ?_
  refine w_callV mi_a7_50 rfl rfl 4 ⟨rfl, rfl⟩ ⟨Nat.le_of_ble_eq_true rfl, Nat.le_of_ble_eq_true rfl⟩ rfl rfl rfl rfl (bd_63 H (dp := dp + 1) (by omega) hk he (by omega) (by rw [ac_kp_len]; exact hq) (by rw [ac_kp_ran]; simp only [List.length_cons, List.length_nil]; omega) hj) ?_
  rintro r' h' ⟨rfl, rfl⟩
  exact w_ireturn mi_a7_53 rfl ⟨rfl, by rw [ac_kp_cons 63 (ac_trs (ac_tr f (nI k)) (nI k) 63 [1001, 1000, 1006])]⟩
theorem rb_64 {f : Nat} (H : rn_ok f) {D : Nat} {n m tc pu stt : Int32} {q : List Int32 × Nat} {dv tk : List (Option Nat)} {dyn : mi_H} {j dp k : Nat} {x v c r v2 c2 : Int32} {w1 w2 : Value} {rs : List Value} (hD : 3 * (f + 1) + 3 ≤ D) (hk : k < 11) (he : ac_ev (f + 1) (nI k) 64 x v c = some (r, v2, c2)) (hdp : dp + (f + 1) ≤ 41) (hq : q.1.length = 64) (hn : q.2 + (ac_tr (f + 1) (nI k) 64).length < 2 ^ 31) (hj : dyn[j]? = some (dc (nI k) w1 w2 v c rs)) : mi_WC D 7 [.ref 1, .ref (j + 6), .int 64, .int x, .int (nI dp)] (kh n m tc pu stt q dv tk dyn) (fun r' h' => r' = some (.int r) ∧ h' = kh n m tc pu stt (ac_kp (ac_tr (f + 1) (nI k) 64) q) dv tk (dyn.set j (dc (nI k) w1 w2 v2 c2 rs))) := by
  obtain ⟨D, rfl⟩ : ∃ D', D = D' + 1 := ⟨D - 1, by omega⟩
  have ht : ac_tr (f + 1) (nI k) 64 = 64 :: ac_trs (ac_tr f (nI k)) (nI k) 64 [1000, 1109, 1, 1110, 1003, 1000, 2063, 1003] := by rw [ac_tr, show ac_tk 64 = some [1000, 1109, 1, 1110, 1003, 1000, 2063, 1003] from by decide +kernel]; rfl
  rw [ht] at hn ⊢
  rw [List.length_cons] at hn
  refine mi_WC.of (X := mi_m7) rfl (Nat.le_of_ble_eq_true rfl) ?_
  refine w_iload_n mi_a7_0 rfl ?_
  refine w_if_eq mi_a7_1 11 (by decide) (fun c => absurd c (by decide)) (fun _ => ?_)
  refine w_iload mi_a7_4 rfl ?_
  refine w_bipushv (v := 40) mi_a7_6 (by decide) ?_
  refine w_icmp_le mi_a7_8 13 (by decide) (fun _ => ?_) (fun c => absurd (nI_le (a := dp) (b := 40) (by omega) (by decide)) c)
  refine w_aload_n mi_a7_13 rfl ?_
  refine w_iload_n mi_a7_14 rfl ?_
  refine w_callV mi_a7_15 rfl rfl 1 ⟨rfl, rfl⟩ ⟨Nat.le_of_ble_eq_true rfl, Nat.le_of_ble_eq_true rfl⟩ rfl rfl rfl rfl (mi_WC.mono (s_begin (d := 0) hq (by omega)) (by omega)) ?_
  rintro r' h' ⟨rfl, rfl⟩
  refine w_iload_n mi_a7_18 rfl ?_
  refine w_bipushv (v := 60) mi_a7_19 (by decide) ?_
  refine w_icmp_ge mi_a7_21 36 (by decide) (fun _ => ?_) (fun c => absurd c (by decide))
  refine w_iload_n mi_a7_36 rfl ?_
  refine w_bipushv (v := 100) mi_a7_37 (by decide) ?_
  refine w_icmp_ge mi_a7_39 54 (by decide) (fun c => absurd c (by decide)) (fun _ => ?_)
  refine w_aload_n mi_a7_42 rfl ?_
  refine w_aload_n mi_a7_43 rfl ?_
  refine w_iload_n mi_a7_44 rfl ?_
  refine w_iload_n mi_a7_45 rfl ?_
  refine w_iload mi_a7_46 rfl ?_
  refine w_iconstv (v := 1) mi_a7_48 (by decide) ?_
  refine w_iaddv mi_a7_49 (nI_succ dp).symm ?_
  refine w_callV mi_a7_50 rfl rfl 4 ⟨rfl, rfl⟩ ⟨Nat.le_of_ble_eq_true rfl, Nat.le_of_ble_eq_true rfl⟩ rfl rfl rfl rfl (bd_64 H (dp := dp + 1) (by omega) hk he (by omega) (by rw [ac_kp_len]; exact hq) (by rw [ac_kp_ran]; simp only [List.length_cons, List.length_nil]; omega) hj) ?_
  rintro r' h' ⟨rfl, rfl⟩
  exact w_ireturn mi_a7_53 rfl ⟨rfl, by rw [ac_kp_cons 64 (ac_trs (ac_tr f (nI k)) (nI k) 64 [1000, 1109, 1, 1110, 1003, 1000, 2063, 1003])]⟩
theorem rb_70 {f : Nat} (H : rn_ok f) {D : Nat} {n m tc pu stt : Int32} {q : List Int32 × Nat} {dv tk : List (Option Nat)} {dyn : mi_H} {j dp k : Nat} {x v c r v2 c2 : Int32} {w1 w2 : Value} {rs : List Value} (hD : 3 * (f + 1) + 3 ≤ D) (hk : k < 11) (he : ac_ev (f + 1) (nI k) 70 x v c = some (r, v2, c2)) (hdp : dp + (f + 1) ≤ 41) (hq : q.1.length = 64) (hn : q.2 + (ac_tr (f + 1) (nI k) 70).length < 2 ^ 31) (hj : dyn[j]? = some (dc (nI k) w1 w2 v c rs)) : mi_WC D 7 [.ref 1, .ref (j + 6), .int 70, .int x, .int (nI dp)] (kh n m tc pu stt q dv tk dyn) (fun r' h' => r' = some (.int r) ∧ h' = kh n m tc pu stt (ac_kp (ac_tr (f + 1) (nI k) 70) q) dv tk (dyn.set j (dc (nI k) w1 w2 v2 c2 rs))) := by
  obtain ⟨D, rfl⟩ : ∃ D', D = D' + 1 := ⟨D - 1, by omega⟩
  have ht : ac_tr (f + 1) (nI k) 70 = 70 :: ac_trs (ac_tr f (nI k)) (nI k) 70 [1002, 1, 1003, 1009, 1002, 7, 1005, 1000, 1003] := by rw [ac_tr, show ac_tk 70 = some [1002, 1, 1003, 1009, 1002, 7, 1005, 1000, 1003] from by decide +kernel]; rfl
  rw [ht] at hn ⊢
  rw [List.length_cons] at hn
  refine mi_WC.of (X := mi_m7) rfl (Nat.le_of_ble_eq_true rfl) ?_
  refine w_iload_n mi_a7_0 rfl ?_
  refine w_if_eq mi_a7_1 11 (by decide) (fun c => absurd c (by decide)) (fun _ => ?_)
  refine w_iload mi_a7_4 rfl ?_
  refine w_bipushv (v := 40) mi_a7_6 (by decide) ?_
  refine w_icmp_le mi_a7_8 13 (by decide) (fun _ => ?_) (fun c => absurd (nI_le (a := dp) (b := 40) (by omega) (by decide)) c)
  refine w_aload_n mi_a7_13 rfl ?_
  refine w_iload_n mi_a7_14 rfl ?_
  refine w_callV mi_a7_15 rfl rfl 1 ⟨rfl, rfl⟩ ⟨Nat.le_of_ble_eq_true rfl, Nat.le_of_ble_eq_true rfl⟩ rfl rfl rfl rfl (mi_WC.mono (s_begin (d := 0) hq (by omega)) (by omega)) ?_
  rintro r' h' ⟨rfl, rfl⟩
  refine w_iload_n mi_a7_18 rfl ?_
  refine w_bipushv (v := 60) mi_a7_19 (by decide) ?_
  refine w_icmp_ge mi_a7_21 36 (by decide) (fun _ => ?_) (fun c => absurd c (by decide))
  refine w_iload_n mi_a7_36 rfl ?_
  refine w_bipushv (v := 100) mi_a7_37 (by decide) ?_
  refine w_icmp_ge mi_a7_39 54 (by decide) (fun c => absurd c (by decide)) (fun _ => ?_)
  refine w_aload_n mi_a7_42 rfl ?_
  refine w_aload_n mi_a7_43 rfl ?_
  refine w_iload_n mi_a7_44 rfl ?_
  refine w_iload_n mi_a7_45 rfl ?_
  refine w_iload mi_a7_46 rfl ?_
  refine w_iconstv (v := 1) mi_a7_48 (by decide) ?_
  refine w_iaddv mi_a7_49 (nI_succ dp).symm ?_
  refine w_callV mi_a7_50 rfl rfl 4 ⟨rfl, rfl⟩ ⟨Nat.le_of_ble_eq_true rfl, Nat.le_of_ble_eq_true rfl⟩ rfl rfl rfl rfl (bd_70 H (dp := dp + 1) (by omega) hk he (by omega) (by rw [ac_kp_len]; exact hq) (by rw [ac_kp_ran]; simp only [List.length_cons, List.length_nil]; omega) hj) ?_
  rintro r' h' ⟨rfl, rfl⟩
  exact w_ireturn mi_a7_53 rfl ⟨rfl, by rw [ac_kp_cons 70 (ac_trs (ac_tr f (nI k)) (nI k) 70 [1002, 1, 1003, 1009, 1002, 7, 1005, 1000, 1003])]⟩
theorem rb_100 {f : Nat} (H : rn_ok f) {D : Nat} {n m tc pu stt : Int32} {q : List Int32 × Nat} {dv tk : List (Option Nat)} {dyn : mi_H} {j dp k : Nat} {x v c r v2 c2 : Int32} {w1 w2 : Value} {rs : List Value} (hD : 3 * (f + 1) + 3 ≤ D) (hk : k < 11) (he : ac_ev (f + 1) (nI k) 100 x v c = some (r, v2, c2)) (hdp : dp + (f + 1) ≤ 41) (hq : q.1.length = 64) (hn : q.2 + (ac_tr (f + 1) (nI k) 100).length < 2 ^ 31) (hj : dyn[j]? = some (dc (nI k) w1 w2 v c rs)) : mi_WC D 7 [.ref 1, .ref (j + 6), .int 100, .int x, .int (nI dp)] (kh n m tc pu stt q dv tk dyn) (fun r' h' => r' = some (.int r) ∧ h' = kh n m tc pu stt (ac_kp (ac_tr (f + 1) (nI k) 100) q) dv tk (dyn.set j (dc (nI k) w1 w2 v2 c2 rs))) := by
  obtain ⟨D, rfl⟩ : ∃ D', D = D' + 1 := ⟨D - 1, by omega⟩
  have ht : ac_tr (f + 1) (nI k) 100 = 100 :: ac_trs (ac_tr f (nI k)) (nI k) 100 [1001, 1000, 1003] := by rw [ac_tr, show ac_tk 100 = some [1001, 1000, 1003] from by decide +kernel]; rfl
  rw [ht] at hn ⊢
  rw [List.length_cons] at hn
  refine mi_WC.of (X := mi_m7) rfl (Nat.le_of_ble_eq_true rfl) ?_
  refine w_iload_n mi_a7_0 rfl ?_
  refine w_if_eq mi_a7_1 11 (by decide) (fun c => absurd c (by decide)) (fun _ => ?_)
  refine w_iload mi_a7_4 rfl ?_
  refine w_bipushv (v := 40) mi_a7_6 (by decide) ?_
  refine w_icmp_le mi_a7_8 13 (by decide) (fun _ => ?_) (fun c => absurd (nI_le (a := dp) (b := 40) (by omega) (by decide)) c)
  refine w_aload_n mi_a7_13 rfl ?_
  refine w_iload_n mi_a7_14 rfl ?_
  refine w_callV mi_a7_15 rfl rfl 1 ⟨rfl, rfl⟩ ⟨Nat.le_of_ble_eq_true rfl, Nat.le_of_ble_eq_true rfl⟩ rfl rfl rfl rfl (mi_WC.mono (s_begin (d := 0) hq (by omega)) (by omega)) ?_
  rintro r' h' ⟨rfl, rfl⟩
  refine w_iload_n mi_a7_18 rfl ?_
  refine w_bipushv (v := 60) mi_a7_19 (by decide) ?_
  refine w_icmp_ge mi_a7_21 36 (by decide) (fun _ => ?_) (fun c => absurd c (by decide))
  refine w_iload_n mi_a7_36 rfl ?_
  refine w_bipushv (v := 100) mi_a7_37 (by decide) ?_
  refine w_icmp_ge mi_a7_39 54 (by decide) (fun _ => ?_) (fun c => absurd c (by decide))
  refine w_iload_n mi_a7_54 rfl ?_
  refine w_sipushv (v := 140) mi_a7_55 (by decide) ?_
  refine w_icmp_ge mi_a7_58 73 (by decide) (fun c => absurd c (by decide)) (fun _ => ?_)
  refine w_aload_n mi_a7_61 rfl ?_
  refine w_aload_n mi_a7_62 rfl ?_
  refine w_iload_n mi_a7_63 rfl ?_
  refine w_iload_n mi_a7_64 rfl ?_
  refine w_iload mi_a7_65 rfl ?_
  refine w_iconstv (v := 1) mi_a7_67 (by decide) ?_
  refine w_iaddv mi_a7_68 (nI_succ dp).symm ?_
  refine w_callV mi_a7_69 rfl rfl 4 ⟨rfl, rfl⟩ ⟨Nat.le_of_ble_eq_true rfl, Nat.le_of_ble_eq_true rfl⟩ rfl rfl rfl rfl (bd_100 H (dp := dp + 1) (by omega) hk he (by omega) (by rw [ac_kp_len]; exact hq) (by rw [ac_kp_ran]; simp only [List.length_cons, List.length_nil]; omega) hj) ?_
  rintro r' h' ⟨rfl, rfl⟩
  exact w_ireturn mi_a7_72 rfl ⟨rfl, by rw [ac_kp_cons 100 (ac_trs (ac_tr f (nI k)) (nI k) 100 [1001, 1000, 1003])]⟩
theorem rb_101 {f : Nat} (H : rn_ok f) {D : Nat} {n m tc pu stt : Int32} {q : List Int32 × Nat} {dv tk : List (Option Nat)} {dyn : mi_H} {j dp k : Nat} {x v c r v2 c2 : Int32} {w1 w2 : Value} {rs : List Value} (hD : 3 * (f + 1) + 3 ≤ D) (hk : k < 11) (he : ac_ev (f + 1) (nI k) 101 x v c = some (r, v2, c2)) (hdp : dp + (f + 1) ≤ 41) (hq : q.1.length = 64) (hn : q.2 + (ac_tr (f + 1) (nI k) 101).length < 2 ^ 31) (hj : dyn[j]? = some (dc (nI k) w1 w2 v c rs)) : mi_WC D 7 [.ref 1, .ref (j + 6), .int 101, .int x, .int (nI dp)] (kh n m tc pu stt q dv tk dyn) (fun r' h' => r' = some (.int r) ∧ h' = kh n m tc pu stt (ac_kp (ac_tr (f + 1) (nI k) 101) q) dv tk (dyn.set j (dc (nI k) w1 w2 v2 c2 rs))) := by
  obtain ⟨D, rfl⟩ : ∃ D', D = D' + 1 := ⟨D - 1, by omega⟩
  have ht : ac_tr (f + 1) (nI k) 101 = 101 :: ac_trs (ac_tr f (nI k)) (nI k) 101 [1000, 2, 1003, 1209, 1, 1003] := by rw [ac_tr, show ac_tk 101 = some [1000, 2, 1003, 1209, 1, 1003] from by decide +kernel]; rfl
  rw [ht] at hn ⊢
  rw [List.length_cons] at hn
  refine mi_WC.of (X := mi_m7) rfl (Nat.le_of_ble_eq_true rfl) ?_
  refine w_iload_n mi_a7_0 rfl ?_
  refine w_if_eq mi_a7_1 11 (by decide) (fun c => absurd c (by decide)) (fun _ => ?_)
  refine w_iload mi_a7_4 rfl ?_
  refine w_bipushv (v := 40) mi_a7_6 (by decide) ?_
  refine w_icmp_le mi_a7_8 13 (by decide) (fun _ => ?_) (fun c => absurd (nI_le (a := dp) (b := 40) (by omega) (by decide)) c)
  refine w_aload_n mi_a7_13 rfl ?_
  refine w_iload_n mi_a7_14 rfl ?_
  refine w_callV mi_a7_15 rfl rfl 1 ⟨rfl, rfl⟩ ⟨Nat.le_of_ble_eq_true rfl, Nat.le_of_ble_eq_true rfl⟩ rfl rfl rfl rfl (mi_WC.mono (s_begin (d := 0) hq (by omega)) (by omega)) ?_
  rintro r' h' ⟨rfl, rfl⟩
  refine w_iload_n mi_a7_18 rfl ?_
  refine w_bipushv (v := 60) mi_a7_19 (by decide) ?_
  refine w_icmp_ge mi_a7_21 36 (by decide) (fun _ => ?_) (fun c => absurd c (by decide))
  refine w_iload_n mi_a7_36 rfl ?_
  refine w_bipushv (v := 100) mi_a7_37 (by decide) ?_
  refine w_icmp_ge mi_a7_39 54 (by decide) (fun _ => ?_) (fun c => absurd c (by decide))
  refine w_iload_n mi_a7_54 rfl ?_
  refine w_sipushv (v := 140) mi_a7_55 (by decide) ?_
  refine w_icmp_ge mi_a7_58 73 (by decide) (fun c => absurd c (by decide)) (fun _ => ?_)
  refine w_aload_n mi_a7_61 rfl ?_
  refine w_aload_n mi_a7_62 rfl ?_
  refine w_iload_n mi_a7_63 rfl ?_
  refine w_iload_n mi_a7_64 rfl ?_
  refine w_iload mi_a7_65 rfl ?_
  refine w_iconstv (v := 1) mi_a7_67 (by decide) ?_
  refine w_iaddv mi_a7_68 (nI_succ dp).symm ?_
  refine w_callV mi_a7_69 rfl rfl 4 ⟨rfl, rfl⟩ ⟨Nat.le_of_ble_eq_true rfl, Nat.le_of_ble_eq_true rfl⟩ rfl rfl rfl rfl (bd_101 H (dp := dp + 1) (by omega) hk he (by omega) (by rw [ac_kp_len]; exact hq) (by rw [ac_kp_ran]; simp only [List.length_cons, List.length_nil]; omega) hj) ?_
  rintro r' h' ⟨rfl, rfl⟩
  exact w_ireturn mi_a7_72 rfl ⟨rfl, by rw [ac_kp_cons 101 (ac_trs (ac_tr f (nI k)) (nI k) 101 [1000, 2, 1003, 1209, 1, 1003])]⟩
theorem rb_110 {f : Nat} (H : rn_ok f) {D : Nat} {n m tc pu stt : Int32} {q : List Int32 × Nat} {dv tk : List (Option Nat)} {dyn : mi_H} {j dp k : Nat} {x v c r v2 c2 : Int32} {w1 w2 : Value} {rs : List Value} (hD : 3 * (f + 1) + 3 ≤ D) (hk : k < 11) (he : ac_ev (f + 1) (nI k) 110 x v c = some (r, v2, c2)) (hdp : dp + (f + 1) ≤ 41) (hq : q.1.length = 64) (hn : q.2 + (ac_tr (f + 1) (nI k) 110).length < 2 ^ 31) (hj : dyn[j]? = some (dc (nI k) w1 w2 v c rs)) : mi_WC D 7 [.ref 1, .ref (j + 6), .int 110, .int x, .int (nI dp)] (kh n m tc pu stt q dv tk dyn) (fun r' h' => r' = some (.int r) ∧ h' = kh n m tc pu stt (ac_kp (ac_tr (f + 1) (nI k) 110) q) dv tk (dyn.set j (dc (nI k) w1 w2 v2 c2 rs))) := by
  obtain ⟨D, rfl⟩ : ∃ D', D = D' + 1 := ⟨D - 1, by omega⟩
  have ht : ac_tr (f + 1) (nI k) 110 = 110 :: ac_trs (ac_tr f (nI k)) (nI k) 110 [1000, 1210, 2, 1005, 1000, 2112, 1003] := by rw [ac_tr, show ac_tk 110 = some [1000, 1210, 2, 1005, 1000, 2112, 1003] from by decide +kernel]; rfl
  rw [ht] at hn ⊢
  rw [List.length_cons] at hn
  refine mi_WC.of (X := mi_m7) rfl (Nat.le_of_ble_eq_true rfl) ?_
  refine w_iload_n mi_a7_0 rfl ?_
  refine w_if_eq mi_a7_1 11 (by decide) (fun c => absurd c (by decide)) (fun _ => ?_)
  refine w_iload mi_a7_4 rfl ?_
  refine w_bipushv (v := 40) mi_a7_6 (by decide) ?_
  refine w_icmp_le mi_a7_8 13 (by decide) (fun _ => ?_) (fun c => absurd (nI_le (a := dp) (b := 40) (by omega) (by decide)) c)
  refine w_aload_n mi_a7_13 rfl ?_
  refine w_iload_n mi_a7_14 rfl ?_
  refine w_callV mi_a7_15 rfl rfl 1 ⟨rfl, rfl⟩ ⟨Nat.le_of_ble_eq_true rfl, Nat.le_of_ble_eq_true rfl⟩ rfl rfl rfl rfl (mi_WC.mono (s_begin (d := 0) hq (by omega)) (by omega)) ?_
  rintro r' h' ⟨rfl, rfl⟩
  refine w_iload_n mi_a7_18 rfl ?_
  refine w_bipushv (v := 60) mi_a7_19 (by decide) ?_
  refine w_icmp_ge mi_a7_21 36 (by decide) (fun _ => ?_) (fun c => absurd c (by decide))
  refine w_iload_n mi_a7_36 rfl ?_
  refine w_bipushv (v := 100) mi_a7_37 (by decide) ?_
  refine w_icmp_ge mi_a7_39 54 (by decide) (fun _ => ?_) (fun c => absurd c (by decide))
  refine w_iload_n mi_a7_54 rfl ?_
  refine w_sipushv (v := 140) mi_a7_55 (by decide) ?_
  refine w_icmp_ge mi_a7_58 73 (by decide) (fun c => absurd c (by decide)) (fun _ => ?_)
  refine w_aload_n mi_a7_61 rfl ?_
  refine w_aload_n mi_a7_62 rfl ?_
  refine w_iload_n mi_a7_63 rfl ?_
  refine w_iload_n mi_a7_64 rfl ?_
  refine w_iload mi_a7_65 rfl ?_
  refine w_iconstv (v := 1) mi_a7_67 (by decide) ?_
  refine w_iaddv mi_a7_68 (nI_succ dp).symm ?_
  refine w_callV mi_a7_69 rfl rfl 4 ⟨rfl, rfl⟩ ⟨Nat.le_of_ble_eq_true rfl, Nat.le_of_ble_eq_true rfl⟩ rfl rfl rfl rfl (bd_110 H (dp := dp + 1) (by omega) hk he (by omega) (by rw [ac_kp_len]; exact hq) (by rw [ac_kp_ran]; simp only [List.length_cons, List.length_nil]; omega) hj) ?_
  rintro r' h' ⟨rfl, rfl⟩
  exact w_ireturn mi_a7_72 rfl ⟨rfl, by rw [ac_kp_cons 110 (ac_trs (ac_tr f (nI k)) (nI k) 110 [1000, 1210, 2, 1005, 1000, 2112, 1003])]⟩
theorem rb_111 {f : Nat} (H : rn_ok f) {D : Nat} {n m tc pu stt : Int32} {q : List Int32 × Nat} {dv tk : List (Option Nat)} {dyn : mi_H} {j dp k : Nat} {x v c r v2 c2 : Int32} {w1 w2 : Value} {rs : List Value} (hD : 3 * (f + 1) + 3 ≤ D) (hk : k < 11) (he : ac_ev (f + 1) (nI k) 111 x v c = some (r, v2, c2)) (hdp : dp + (f + 1) ≤ 41) (hq : q.1.length = 64) (hn : q.2 + (ac_tr (f + 1) (nI k) 111).length < 2 ^ 31) (hj : dyn[j]? = some (dc (nI k) w1 w2 v c rs)) : mi_WC D 7 [.ref 1, .ref (j + 6), .int 111, .int x, .int (nI dp)] (kh n m tc pu stt q dv tk dyn) (fun r' h' => r' = some (.int r) ∧ h' = kh n m tc pu stt (ac_kp (ac_tr (f + 1) (nI k) 111) q) dv tk (dyn.set j (dc (nI k) w1 w2 v2 c2 rs))) := by
  obtain ⟨D, rfl⟩ : ∃ D', D = D' + 1 := ⟨D - 1, by omega⟩
  have ht : ac_tr (f + 1) (nI k) 111 = 111 :: ac_trs (ac_tr f (nI k)) (nI k) 111 [1000, 1328, 1, 1004] := by rw [ac_tr, show ac_tk 111 = some [1000, 1328, 1, 1004] from by decide +kernel]; rfl
  rw [ht] at hn ⊢
  rw [List.length_cons] at hn
  refine mi_WC.of (X := mi_m7) rfl (Nat.le_of_ble_eq_true rfl) ?_
  refine w_iload_n mi_a7_0 rfl ?_
  refine w_if_eq mi_a7_1 11 (by decide) (fun c => absurd c (by decide)) (fun _ => ?_)
  refine w_iload mi_a7_4 rfl ?_
  refine w_bipushv (v := 40) mi_a7_6 (by decide) ?_
  refine w_icmp_le mi_a7_8 13 (by decide) (fun _ => ?_) (fun c => absurd (nI_le (a := dp) (b := 40) (by omega) (by decide)) c)
  refine w_aload_n mi_a7_13 rfl ?_
  refine w_iload_n mi_a7_14 rfl ?_
  refine w_callV mi_a7_15 rfl rfl 1 ⟨rfl, rfl⟩ ⟨Nat.le_of_ble_eq_true rfl, Nat.le_of_ble_eq_true rfl⟩ rfl rfl rfl rfl (mi_WC.mono (s_begin (d := 0) hq (by omega)) (by omega)) ?_
  rintro r' h' ⟨rfl, rfl⟩
  refine w_iload_n mi_a7_18 rfl ?_
  refine w_bipushv (v := 60) mi_a7_19 (by decide) ?_
  refine w_icmp_ge mi_a7_21 36 (by decide) (fun _ => ?_) (fun c => absurd c (by decide))
  refine w_iload_n mi_a7_36 rfl ?_
  refine w_bipushv (v := 100) mi_a7_37 (by decide) ?_
  refine w_icmp_ge mi_a7_39 54 (by decide) (fun _ => ?_) (fun c => absurd c (by decide))
  refine w_iload_n mi_a7_54 rfl ?_
  refine w_sipushv (v := 140) mi_a7_55 (by decide) ?_
  refine w_icmp_ge mi_a7_58 73 (by decide) (fun c => absurd c (by decide)) (fun _ => ?_)
  refine w_aload_n mi_a7_61 rfl ?_
  refine w_aload_n mi_a7_62 rfl ?_
  refine w_iload_n mi_a7_63 rfl ?_
  refine w_iload_n mi_a7_64 rfl ?_
  refine w_iload mi_a7_65 rfl ?_
  refine w_iconstv (v := 1) mi_a7_67 (by decide) ?_
  refine w_iaddv mi_a7_68 (nI_succ dp).symm ?_
  refine w_callV mi_a7_69 rfl rfl 4 ⟨rfl, rfl⟩ ⟨Nat.le_of_ble_eq_true rfl, Nat.le_of_ble_eq_true rfl⟩ rfl rfl rfl rfl (bd_111 H (dp := dp + 1) (by omega) hk he (by omega) (by rw [ac_kp_len]; exact hq) (by rw [ac_kp_ran]; simp only [List.length_cons, List.length_nil]; omega) hj) ?_
  rintro r' h' ⟨rfl, rfl⟩
  exact w_ireturn mi_a7_72 rfl ⟨rfl, by rw [ac_kp_cons 111 (ac_trs (ac_tr f (nI k)) (nI k) 111 [1000, 1328, 1, 1004])]⟩
theorem rb_112 {f : Nat} (H : rn_ok f) {D : Nat} {n m tc pu stt : Int32} {q : List Int32 × Nat} {dv tk : List (Option Nat)} {dyn : mi_H} {j dp k : Nat} {x v c r v2 c2 : Int32} {w1 w2 : Value} {rs : List Value} (hD : 3 * (f + 1) + 3 ≤ D) (hk : k < 11) (he : ac_ev (f + 1) (nI k) 112 x v c = some (r, v2, c2)) (hdp : dp + (f + 1) ≤ 41) (hq : q.1.length = 64) (hn : q.2 + (ac_tr (f + 1) (nI k) 112).length < 2 ^ 31) (hj : dyn[j]? = some (dc (nI k) w1 w2 v c rs)) : mi_WC D 7 [.ref 1, .ref (j + 6), .int 112, .int x, .int (nI dp)] (kh n m tc pu stt q dv tk dyn) (fun r' h' => r' = some (.int r) ∧ h' = kh n m tc pu stt (ac_kp (ac_tr (f + 1) (nI k) 112) q) dv tk (dyn.set j (dc (nI k) w1 w2 v2 c2 rs))) := by
  obtain ⟨D, rfl⟩ : ∃ D', D = D' + 1 := ⟨D - 1, by omega⟩
  have ht : ac_tr (f + 1) (nI k) 112 = 112 :: ac_trs (ac_tr f (nI k)) (nI k) 112 [1002, 1000, 1004] := by rw [ac_tr, show ac_tk 112 = some [1002, 1000, 1004] from by decide +kernel]; rfl
  rw [ht] at hn ⊢
  rw [List.length_cons] at hn
  refine mi_WC.of (X := mi_m7) rfl (Nat.le_of_ble_eq_true rfl) ?_
  refine w_iload_n mi_a7_0 rfl ?_
  refine w_if_eq mi_a7_1 11 (by decide) (fun c => absurd c (by decide)) (fun _ => ?_)
  refine w_iload mi_a7_4 rfl ?_
  refine w_bipushv (v := 40) mi_a7_6 (by decide) ?_
  refine w_icmp_le mi_a7_8 13 (by decide) (fun _ => ?_) (fun c => absurd (nI_le (a := dp) (b := 40) (by omega) (by decide)) c)
  refine w_aload_n mi_a7_13 rfl ?_
  refine w_iload_n mi_a7_14 rfl ?_
  refine w_callV mi_a7_15 rfl rfl 1 ⟨rfl, rfl⟩ ⟨Nat.le_of_ble_eq_true rfl, Nat.le_of_ble_eq_true rfl⟩ rfl rfl rfl rfl (mi_WC.mono (s_begin (d := 0) hq (by omega)) (by omega)) ?_
  rintro r' h' ⟨rfl, rfl⟩
  refine w_iload_n mi_a7_18 rfl ?_
  refine w_bipushv (v := 60) mi_a7_19 (by decide) ?_
  refine w_icmp_ge mi_a7_21 36 (by decide) (fun _ => ?_) (fun c => absurd c (by decide))
  refine w_iload_n mi_a7_36 rfl ?_
  refine w_bipushv (v := 100) mi_a7_37 (by decide) ?_
  refine w_icmp_ge mi_a7_39 54 (by decide) (fun _ => ?_) (fun c => absurd c (by decide))
  refine w_iload_n mi_a7_54 rfl ?_
  refine w_sipushv (v := 140) mi_a7_55 (by decide) ?_
  refine w_icmp_ge mi_a7_58 73 (by decide) (fun c => absurd c (by decide)) (fun _ => ?_)
  refine w_aload_n mi_a7_61 rfl ?_
  refine w_aload_n mi_a7_62 rfl ?_
  refine w_iload_n mi_a7_63 rfl ?_
  refine w_iload_n mi_a7_64 rfl ?_
  refine w_iload mi_a7_65 rfl ?_
  refine w_iconstv (v := 1) mi_a7_67 (by decide) ?_
  refine w_iaddv mi_a7_68 (nI_succ dp).symm ?_
  refine w_callV mi_a7_69 rfl rfl 4 ⟨rfl, rfl⟩ ⟨Nat.le_of_ble_eq_true rfl, Nat.le_of_ble_eq_true rfl⟩ rfl rfl rfl rfl (bd_112 H (dp := dp + 1) (by omega) hk he (by omega) (by rw [ac_kp_len]; exact hq) (by rw [ac_kp_ran]; simp only [List.length_cons, List.length_nil]; omega) hj) ?_
  rintro r' h' ⟨rfl, rfl⟩
  exact w_ireturn mi_a7_72 rfl ⟨rfl, by rw [ac_kp_cons 112 (ac_trs (ac_tr f (nI k)) (nI k) 112 [1002, 1000, 1004])]⟩
theorem rb_120 {f : Nat} (H : rn_ok f) {D : Nat} {n m tc pu stt : Int32} {q : List Int32 × Nat} {dv tk : List (Option Nat)} {dyn : mi_H} {j dp k : Nat} {x v c r v2 c2 : Int32} {w1 w2 : Value} {rs : List Value} (hD : 3 * (f + 1) + 3 ≤ D) (hk : k < 11) (he : ac_ev (f + 1) (nI k) 120 x v c = some (r, v2, c2)) (hdp : dp + (f + 1) ≤ 41) (hq : q.1.length = 64) (hn : q.2 + (ac_tr (f + 1) (nI k) 120).length < 2 ^ 31) (hj : dyn[j]? = some (dc (nI k) w1 w2 v c rs)) : mi_WC D 7 [.ref 1, .ref (j + 6), .int 120, .int x, .int (nI dp)] (kh n m tc pu stt q dv tk dyn) (fun r' h' => r' = some (.int r) ∧ h' = kh n m tc pu stt (ac_kp (ac_tr (f + 1) (nI k) 120) q) dv tk (dyn.set j (dc (nI k) w1 w2 v2 c2 rs))) := by
  obtain ⟨D, rfl⟩ : ∃ D', D = D' + 1 := ⟨D - 1, by omega⟩
  have ht : ac_tr (f + 1) (nI k) 120 = 120 :: ac_trs (ac_tr f (nI k)) (nI k) 120 [1000, 1105, 3, 1005, 1001, 1003] := by rw [ac_tr, show ac_tk 120 = some [1000, 1105, 3, 1005, 1001, 1003] from by decide +kernel]; rfl
  rw [ht] at hn ⊢
  rw [List.length_cons] at hn
  refine mi_WC.of (X := mi_m7) rfl (Nat.le_of_ble_eq_true rfl) ?_
  refine w_iload_n mi_a7_0 rfl ?_
  refine w_if_eq mi_a7_1 11 (by decide) (fun c => absurd c (by decide)) (fun _ => ?_)
  refine w_iload mi_a7_4 rfl ?_
  refine w_bipushv (v := 40) mi_a7_6 (by decide) ?_
  refine w_icmp_le mi_a7_8 13 (by decide) (fun _ => ?_) (fun c => absurd (nI_le (a := dp) (b := 40) (by omega) (by decide)) c)
  refine w_aload_n mi_a7_13 rfl ?_
  refine w_iload_n mi_a7_14 rfl ?_
  refine w_callV mi_a7_15 rfl rfl 1 ⟨rfl, rfl⟩ ⟨Nat.le_of_ble_eq_true rfl, Nat.le_of_ble_eq_true rfl⟩ rfl rfl rfl rfl (mi_WC.mono (s_begin (d := 0) hq (by omega)) (by omega)) ?_
  rintro r' h' ⟨rfl, rfl⟩
  refine w_iload_n mi_a7_18 rfl ?_
  refine w_bipushv (v := 60) mi_a7_19 (by decide) ?_
  refine w_icmp_ge mi_a7_21 36 (by decide) (fun _ => ?_) (fun c => absurd c (by decide))
  refine w_iload_n mi_a7_36 rfl ?_
  refine w_bipushv (v := 100) mi_a7_37 (by decide) ?_
  refine w_icmp_ge mi_a7_39 54 (by decide) (fun _ => ?_) (fun c => absurd c (by decide))
  refine w_iload_n mi_a7_54 rfl ?_
  refine w_sipushv (v := 140) mi_a7_55 (by decide) ?_
  refine w_icmp_ge mi_a7_58 73 (by decide) (fun c => absurd c (by decide)) (fun _ => ?_)
  refine w_aload_n mi_a7_61 rfl ?_
  refine w_aload_n mi_a7_62 rfl ?_
  refine w_iload_n mi_a7_63 rfl ?_
  refine w_iload_n mi_a7_64 rfl ?_
  refine w_iload mi_a7_65 rfl ?_
  refine w_iconstv (v := 1) mi_a7_67 (by decide) ?_
  refine w_iaddv mi_a7_68 (nI_succ dp).symm ?_
  refine w_callV mi_a7_69 rfl rfl 4 ⟨rfl, rfl⟩ ⟨Nat.le_of_ble_eq_true rfl, Nat.le_of_ble_eq_true rfl⟩ rfl rfl rfl rfl (bd_120 H (dp := dp + 1) (by omega) hk he (by omega) (by rw [ac_kp_len]; exact hq) (by rw [ac_kp_ran]; simp only [List.length_cons, List.length_nil]; omega) hj) ?_
  rintro r' h' ⟨rfl, rfl⟩
  exact w_ireturn mi_a7_72 rfl ⟨rfl, by rw [ac_kp_cons 120 (ac_trs (ac_tr f (nI k)) (nI k) 120 [1000, 1105, 3, 1005, 1001, 1003])]⟩
theorem rb_130 {f : Nat} (H : rn_ok f) {D : Nat} {n m tc pu stt : Int32} {q : List Int32 × Nat} {dv tk : List (Option Nat)} {dyn : mi_H} {j dp k : Nat} {x v c r v2 c2 : Int32} {w1 w2 : Value} {rs : List Value} (hD : 3 * (f + 1) + 3 ≤ D) (hk : k < 11) (he : ac_ev (f + 1) (nI k) 130 x v c = some (r, v2, c2)) (hdp : dp + (f + 1) ≤ 41) (hq : q.1.length = 64) (hn : q.2 + (ac_tr (f + 1) (nI k) 130).length < 2 ^ 31) (hj : dyn[j]? = some (dc (nI k) w1 w2 v c rs)) : mi_WC D 7 [.ref 1, .ref (j + 6), .int 130, .int x, .int (nI dp)] (kh n m tc pu stt q dv tk dyn) (fun r' h' => r' = some (.int r) ∧ h' = kh n m tc pu stt (ac_kp (ac_tr (f + 1) (nI k) 130) q) dv tk (dyn.set j (dc (nI k) w1 w2 v2 c2 rs))) := by
  obtain ⟨D, rfl⟩ : ∃ D', D = D' + 1 := ⟨D - 1, by omega⟩
  have ht : ac_tr (f + 1) (nI k) 130 = 130 :: ac_trs (ac_tr f (nI k)) (nI k) 130 [1000, 1200, 3, 1005] := by rw [ac_tr, show ac_tk 130 = some [1000, 1200, 3, 1005] from by decide +kernel]; rfl
  rw [ht] at hn ⊢
  rw [List.length_cons] at hn
  refine mi_WC.of (X := mi_m7) rfl (Nat.le_of_ble_eq_true rfl) ?_
  refine w_iload_n mi_a7_0 rfl ?_
  refine w_if_eq mi_a7_1 11 (by decide) (fun c => absurd c (by decide)) (fun _ => ?_)
  refine w_iload mi_a7_4 rfl ?_
  refine w_bipushv (v := 40) mi_a7_6 (by decide) ?_
  refine w_icmp_le mi_a7_8 13 (by decide) (fun _ => ?_) (fun c => absurd (nI_le (a := dp) (b := 40) (by omega) (by decide)) c)
  refine w_aload_n mi_a7_13 rfl ?_
  refine w_iload_n mi_a7_14 rfl ?_
  refine w_callV mi_a7_15 rfl rfl 1 ⟨rfl, rfl⟩ ⟨Nat.le_of_ble_eq_true rfl, Nat.le_of_ble_eq_true rfl⟩ rfl rfl rfl rfl (mi_WC.mono (s_begin (d := 0) hq (by omega)) (by omega)) ?_
  rintro r' h' ⟨rfl, rfl⟩
  refine w_iload_n mi_a7_18 rfl ?_
  refine w_bipushv (v := 60) mi_a7_19 (by decide) ?_
  refine w_icmp_ge mi_a7_21 36 (by decide) (fun _ => ?_) (fun c => absurd c (by decide))
  refine w_iload_n mi_a7_36 rfl ?_
  refine w_bipushv (v := 100) mi_a7_37 (by decide) ?_
  refine w_icmp_ge mi_a7_39 54 (by decide) (fun _ => ?_) (fun c => absurd c (by decide))
  refine w_iload_n mi_a7_54 rfl ?_
  refine w_sipushv (v := 140) mi_a7_55 (by decide) ?_
  refine w_icmp_ge mi_a7_58 73 (by decide) (fun c => absurd c (by decide)) (fun _ => ?_)
  refine w_aload_n mi_a7_61 rfl ?_
  refine w_aload_n mi_a7_62 rfl ?_
  refine w_iload_n mi_a7_63 rfl ?_
  refine w_iload_n mi_a7_64 rfl ?_
  refine w_iload mi_a7_65 rfl ?_
  refine w_iconstv (v := 1) mi_a7_67 (by decide) ?_
  refine w_iaddv mi_a7_68 (nI_succ dp).symm ?_
  refine w_callV mi_a7_69 rfl rfl 4 ⟨rfl, rfl⟩ ⟨Nat.le_of_ble_eq_true rfl, Nat.le_of_ble_eq_true rfl⟩ rfl rfl rfl rfl (bd_130 H (dp := dp + 1) (by omega) hk he (by omega) (by rw [ac_kp_len]; exact hq) (by rw [ac_kp_ran]; simp only [List.length_cons, List.length_nil]; omega) hj) ?_
  rintro r' h' ⟨rfl, rfl⟩
  exact w_ireturn mi_a7_72 rfl ⟨rfl, by rw [ac_kp_cons 130 (ac_trs (ac_tr f (nI k)) (nI k) 130 [1000, 1200, 3, 1005])]⟩
theorem rb_131 {f : Nat} (H : rn_ok f) {D : Nat} {n m tc pu stt : Int32} {q : List Int32 × Nat} {dv tk : List (Option Nat)} {dyn : mi_H} {j dp k : Nat} {x v c r v2 c2 : Int32} {w1 w2 : Value} {rs : List Value} (hD : 3 * (f + 1) + 3 ≤ D) (hk : k < 11) (he : ac_ev (f + 1) (nI k) 131 x v c = some (r, v2, c2)) (hdp : dp + (f + 1) ≤ 41) (hq : q.1.length = 64) (hn : q.2 + (ac_tr (f + 1) (nI k) 131).length < 2 ^ 31) (hj : dyn[j]? = some (dc (nI k) w1 w2 v c rs)) : mi_WC D 7 [.ref 1, .ref (j + 6), .int 131, .int x, .int (nI dp)] (kh n m tc pu stt q dv tk dyn) (fun r' h' => r' = some (.int r) ∧ h' = kh n m tc pu stt (ac_kp (ac_tr (f + 1) (nI k) 131) q) dv tk (dyn.set j (dc (nI k) w1 w2 v2 c2 rs))) := by
  obtain ⟨D, rfl⟩ : ∃ D', D = D' + 1 := ⟨D - 1, by omega⟩
  have ht : ac_tr (f + 1) (nI k) 131 = 131 :: ac_trs (ac_tr f (nI k)) (nI k) 131 [1000, 1, 1003, 1201, 5, 1003] := by rw [ac_tr, show ac_tk 131 = some [1000, 1, 1003, 1201, 5, 1003] from by decide +kernel]; rfl
  rw [ht] at hn ⊢
  rw [List.length_cons] at hn
  refine mi_WC.of (X := mi_m7) rfl (Nat.le_of_ble_eq_true rfl) ?_
  refine w_iload_n mi_a7_0 rfl ?_
  refine w_if_eq mi_a7_1 11 (by decide) (fun c => absurd c (by decide)) (fun _ => ?_)
  refine w_iload mi_a7_4 rfl ?_
  refine w_bipushv (v := 40) mi_a7_6 (by decide) ?_
  refine w_icmp_le mi_a7_8 13 (by decide) (fun _ => ?_) (fun c => absurd (nI_le (a := dp) (b := 40) (by omega) (by decide)) c)
  refine w_aload_n mi_a7_13 rfl ?_
  refine w_iload_n mi_a7_14 rfl ?_
  refine w_callV mi_a7_15 rfl rfl 1 ⟨rfl, rfl⟩ ⟨Nat.le_of_ble_eq_true rfl, Nat.le_of_ble_eq_true rfl⟩ rfl rfl rfl rfl (mi_WC.mono (s_begin (d := 0) hq (by omega)) (by omega)) ?_
  rintro r' h' ⟨rfl, rfl⟩
  refine w_iload_n mi_a7_18 rfl ?_
  refine w_bipushv (v := 60) mi_a7_19 (by decide) ?_
  refine w_icmp_ge mi_a7_21 36 (by decide) (fun _ => ?_) (fun c => absurd c (by decide))
  refine w_iload_n mi_a7_36 rfl ?_
  refine w_bipushv (v := 100) mi_a7_37 (by decide) ?_
  refine w_icmp_ge mi_a7_39 54 (by decide) (fun _ => ?_) (fun c => absurd c (by decide))
  refine w_iload_n mi_a7_54 rfl ?_
  refine w_sipushv (v := 140) mi_a7_55 (by decide) ?_
  refine w_icmp_ge mi_a7_58 73 (by decide) (fun c => absurd c (by decide)) (fun _ => ?_)
  refine w_aload_n mi_a7_61 rfl ?_
  refine w_aload_n mi_a7_62 rfl ?_
  refine w_iload_n mi_a7_63 rfl ?_
  refine w_iload_n mi_a7_64 rfl ?_
  refine w_iload mi_a7_65 rfl ?_
  refine w_iconstv (v := 1) mi_a7_67 (by decide) ?_
  refine w_iaddv mi_a7_68 (nI_succ dp).symm ?_
  refine w_callV mi_a7_69 rfl rfl 4 ⟨rfl, rfl⟩ ⟨Nat.le_of_ble_eq_true rfl, Nat.le_of_ble_eq_true rfl⟩ rfl rfl rfl rfl (bd_131 H (dp := dp + 1) (by omega) hk he (by omega) (by rw [ac_kp_len]; exact hq) (by rw [ac_kp_ran]; simp only [List.length_cons, List.length_nil]; omega) hj) ?_
  rintro r' h' ⟨rfl, rfl⟩
  exact w_ireturn mi_a7_72 rfl ⟨rfl, by rw [ac_kp_cons 131 (ac_trs (ac_tr f (nI k)) (nI k) 131 [1000, 1, 1003, 1201, 5, 1003])]⟩
theorem rb_140 {f : Nat} (H : rn_ok f) {D : Nat} {n m tc pu stt : Int32} {q : List Int32 × Nat} {dv tk : List (Option Nat)} {dyn : mi_H} {j dp k : Nat} {x v c r v2 c2 : Int32} {w1 w2 : Value} {rs : List Value} (hD : 3 * (f + 1) + 3 ≤ D) (hk : k < 11) (he : ac_ev (f + 1) (nI k) 140 x v c = some (r, v2, c2)) (hdp : dp + (f + 1) ≤ 41) (hq : q.1.length = 64) (hn : q.2 + (ac_tr (f + 1) (nI k) 140).length < 2 ^ 31) (hj : dyn[j]? = some (dc (nI k) w1 w2 v c rs)) : mi_WC D 7 [.ref 1, .ref (j + 6), .int 140, .int x, .int (nI dp)] (kh n m tc pu stt q dv tk dyn) (fun r' h' => r' = some (.int r) ∧ h' = kh n m tc pu stt (ac_kp (ac_tr (f + 1) (nI k) 140) q) dv tk (dyn.set j (dc (nI k) w1 w2 v2 c2 rs))) := by
  obtain ⟨D, rfl⟩ : ∃ D', D = D' + 1 := ⟨D - 1, by omega⟩
  have ht : ac_tr (f + 1) (nI k) 140 = 140 :: ac_trs (ac_tr f (nI k)) (nI k) 140 [1001, 1000, 1004] := by rw [ac_tr, show ac_tk 140 = some [1001, 1000, 1004] from by decide +kernel]; rfl
  rw [ht] at hn ⊢
  rw [List.length_cons] at hn
  refine mi_WC.of (X := mi_m7) rfl (Nat.le_of_ble_eq_true rfl) ?_
  refine w_iload_n mi_a7_0 rfl ?_
  refine w_if_eq mi_a7_1 11 (by decide) (fun c => absurd c (by decide)) (fun _ => ?_)
  refine w_iload mi_a7_4 rfl ?_
  refine w_bipushv (v := 40) mi_a7_6 (by decide) ?_
  refine w_icmp_le mi_a7_8 13 (by decide) (fun _ => ?_) (fun c => absurd (nI_le (a := dp) (b := 40) (by omega) (by decide)) c)
  refine w_aload_n mi_a7_13 rfl ?_
  refine w_iload_n mi_a7_14 rfl ?_
  refine w_callV mi_a7_15 rfl rfl 1 ⟨rfl, rfl⟩ ⟨Nat.le_of_ble_eq_true rfl, Nat.le_of_ble_eq_true rfl⟩ rfl rfl rfl rfl (mi_WC.mono (s_begin (d := 0) hq (by omega)) (by omega)) ?_
  rintro r' h' ⟨rfl, rfl⟩
  refine w_iload_n mi_a7_18 rfl ?_
  refine w_bipushv (v := 60) mi_a7_19 (by decide) ?_
  refine w_icmp_ge mi_a7_21 36 (by decide) (fun _ => ?_) (fun c => absurd c (by decide))
  refine w_iload_n mi_a7_36 rfl ?_
  refine w_bipushv (v := 100) mi_a7_37 (by decide) ?_
  refine w_icmp_ge mi_a7_39 54 (by decide) (fun _ => ?_) (fun c => absurd c (by decide))
  refine w_iload_n mi_a7_54 rfl ?_
  refine w_sipushv (v := 140) mi_a7_55 (by decide) ?_
  refine w_icmp_ge mi_a7_58 73 (by decide) (fun _ => ?_) (fun c => absurd c (by decide))
  refine w_iload_n mi_a7_73 rfl ?_
  refine w_sipushv (v := 180) mi_a7_74 (by decide) ?_
  refine w_icmp_ge mi_a7_77 94 (by decide) (fun c => absurd c (by decide)) (fun _ => ?_)
  refine w_aload_n mi_a7_80 rfl ?_
  refine w_aload_n mi_a7_81 rfl ?_
  refine w_iload_n mi_a7_82 rfl ?_
  refine w_iload_n mi_a7_83 rfl ?_
  refine w_iload mi_a7_84 rfl ?_
  refine w_iconstv (v := 1) mi_a7_86 (by decide) ?_
  refine w_iaddv mi_a7_87 (nI_succ dp).symm ?_
  refine w_callV mi_a7_88 rfl rfl 4 ⟨rfl, rfl⟩ ⟨Nat.le_of_ble_eq_true rfl, Nat.le_of_ble_eq_true rfl⟩ rfl rfl rfl rfl (bd_140 H (dp := dp + 1) (by omega) hk he (by omega) (by rw [ac_kp_len]; exact hq) (by rw [ac_kp_ran]; simp only [List.length_cons, List.length_nil]; omega) hj) ?_
  rintro r' h' ⟨rfl, rfl⟩
  refine w_goto mi_a7_91 105 (by decide) ?_
  exact w_ireturn mi_a7_105 rfl ⟨rfl, by rw [ac_kp_cons 140 (ac_trs (ac_tr f (nI k)) (nI k) 140 [1001, 1000, 1004])]⟩
theorem rb_141 {f : Nat} (H : rn_ok f) {D : Nat} {n m tc pu stt : Int32} {q : List Int32 × Nat} {dv tk : List (Option Nat)} {dyn : mi_H} {j dp k : Nat} {x v c r v2 c2 : Int32} {w1 w2 : Value} {rs : List Value} (hD : 3 * (f + 1) + 3 ≤ D) (hk : k < 11) (he : ac_ev (f + 1) (nI k) 141 x v c = some (r, v2, c2)) (hdp : dp + (f + 1) ≤ 41) (hq : q.1.length = 64) (hn : q.2 + (ac_tr (f + 1) (nI k) 141).length < 2 ^ 31) (hj : dyn[j]? = some (dc (nI k) w1 w2 v c rs)) : mi_WC D 7 [.ref 1, .ref (j + 6), .int 141, .int x, .int (nI dp)] (kh n m tc pu stt q dv tk dyn) (fun r' h' => r' = some (.int r) ∧ h' = kh n m tc pu stt (ac_kp (ac_tr (f + 1) (nI k) 141) q) dv tk (dyn.set j (dc (nI k) w1 w2 v2 c2 rs))) := by
  obtain ⟨D, rfl⟩ : ∃ D', D = D' + 1 := ⟨D - 1, by omega⟩
  have ht : ac_tr (f + 1) (nI k) 141 = 141 :: ac_trs (ac_tr f (nI k)) (nI k) 141 [1000, 1202, 1, 1314, 1004] := by rw [ac_tr, show ac_tk 141 = some [1000, 1202, 1, 1314, 1004] from by decide +kernel]; rfl
  rw [ht] at hn ⊢
  rw [List.length_cons] at hn
  refine mi_WC.of (X := mi_m7) rfl (Nat.le_of_ble_eq_true rfl) ?_
  refine w_iload_n mi_a7_0 rfl ?_
  refine w_if_eq mi_a7_1 11 (by decide) (fun c => absurd c (by decide)) (fun _ => ?_)
  refine w_iload mi_a7_4 rfl ?_
  refine w_bipushv (v := 40) mi_a7_6 (by decide) ?_
  refine w_icmp_le mi_a7_8 13 (by decide) (fun _ => ?_) (fun c => absurd (nI_le (a := dp) (b := 40) (by omega) (by decide)) c)
  refine w_aload_n mi_a7_13 rfl ?_
  refine w_iload_n mi_a7_14 rfl ?_
  refine w_callV mi_a7_15 rfl rfl 1 ⟨rfl, rfl⟩ ⟨Nat.le_of_ble_eq_true rfl, Nat.le_of_ble_eq_true rfl⟩ rfl rfl rfl rfl (mi_WC.mono (s_begin (d := 0) hq (by omega)) (by omega)) ?_
  rintro r' h' ⟨rfl, rfl⟩
  refine w_iload_n mi_a7_18 rfl ?_
  refine w_bipushv (v := 60) mi_a7_19 (by decide) ?_
  refine w_icmp_ge mi_a7_21 36 (by decide) (fun _ => ?_) (fun c => absurd c (by decide))
  refine w_iload_n mi_a7_36 rfl ?_
  refine w_bipushv (v := 100) mi_a7_37 (by decide) ?_
  refine w_icmp_ge mi_a7_39 54 (by decide) (fun _ => ?_) (fun c => absurd c (by decide))
  refine w_iload_n mi_a7_54 rfl ?_
  refine w_sipushv (v := 140) mi_a7_55 (by decide) ?_
  refine w_icmp_ge mi_a7_58 73 (by decide) (fun _ => ?_) (fun c => absurd c (by decide))
  refine w_iload_n mi_a7_73 rfl ?_
  refine w_sipushv (v := 180) mi_a7_74 (by decide) ?_
  refine w_icmp_ge mi_a7_77 94 (by decide) (fun c => absurd c (by decide)) (fun _ => ?_)
  refine w_aload_n mi_a7_80 rfl ?_
  refine w_aload_n mi_a7_81 rfl ?_
  refine w_iload_n mi_a7_82 rfl ?_
  refine w_iload_n mi_a7_83 rfl ?_
  refine w_iload mi_a7_84 rfl ?_
  refine w_iconstv (v := 1) mi_a7_86 (by decide) ?_
  refine w_iaddv mi_a7_87 (nI_succ dp).symm ?_
  refine w_callV mi_a7_88 rfl rfl 4 ⟨rfl, rfl⟩ ⟨Nat.le_of_ble_eq_true rfl, Nat.le_of_ble_eq_true rfl⟩ rfl rfl rfl rfl (bd_141 H (dp := dp + 1) (by omega) hk he (by omega) (by rw [ac_kp_len]; exact hq) (by rw [ac_kp_ran]; simp only [List.length_cons, List.length_nil]; omega) hj) ?_
  rintro r' h' ⟨rfl, rfl⟩
  refine w_goto mi_a7_91 105 (by decide) ?_
  exact w_ireturn mi_a7_105 rfl ⟨rfl, by rw [ac_kp_cons 141 (ac_trs (ac_tr f (nI k)) (nI k) 141 [1000, 1202, 1, 1314, 1004])]⟩
theorem rb_142 {f : Nat} (H : rn_ok f) {D : Nat} {n m tc pu stt : Int32} {q : List Int32 × Nat} {dv tk : List (Option Nat)} {dyn : mi_H} {j dp k : Nat} {x v c r v2 c2 : Int32} {w1 w2 : Value} {rs : List Value} (hD : 3 * (f + 1) + 3 ≤ D) (hk : k < 11) (he : ac_ev (f + 1) (nI k) 142 x v c = some (r, v2, c2)) (hdp : dp + (f + 1) ≤ 41) (hq : q.1.length = 64) (hn : q.2 + (ac_tr (f + 1) (nI k) 142).length < 2 ^ 31) (hj : dyn[j]? = some (dc (nI k) w1 w2 v c rs)) : mi_WC D 7 [.ref 1, .ref (j + 6), .int 142, .int x, .int (nI dp)] (kh n m tc pu stt q dv tk dyn) (fun r' h' => r' = some (.int r) ∧ h' = kh n m tc pu stt (ac_kp (ac_tr (f + 1) (nI k) 142) q) dv tk (dyn.set j (dc (nI k) w1 w2 v2 c2 rs))) := by
  obtain ⟨D, rfl⟩ : ∃ D', D = D' + 1 := ⟨D - 1, by omega⟩
  have ht : ac_tr (f + 1) (nI k) 142 = 142 :: ac_trs (ac_tr f (nI k)) (nI k) 142 [1000, 1, 1003, 1210, 4, 1003] := by rw [ac_tr, show ac_tk 142 = some [1000, 1, 1003, 1210, 4, 1003] from by decide +kernel]; rfl
  rw [ht] at hn ⊢
  rw [List.length_cons] at hn
  refine mi_WC.of (X := mi_m7) rfl (Nat.le_of_ble_eq_true rfl) ?_
  refine w_iload_n mi_a7_0 rfl ?_
  refine w_if_eq mi_a7_1 11 (by decide) (fun c => absurd c (by decide)) (fun _ => ?_)
  refine w_iload mi_a7_4 rfl ?_
  refine w_bipushv (v := 40) mi_a7_6 (by decide) ?_
  refine w_icmp_le mi_a7_8 13 (by decide) (fun _ => ?_) (fun c => absurd (nI_le (a := dp) (b := 40) (by omega) (by decide)) c)
  refine w_aload_n mi_a7_13 rfl ?_
  refine w_iload_n mi_a7_14 rfl ?_
  refine w_callV mi_a7_15 rfl rfl 1 ⟨rfl, rfl⟩ ⟨Nat.le_of_ble_eq_true rfl, Nat.le_of_ble_eq_true rfl⟩ rfl rfl rfl rfl (mi_WC.mono (s_begin (d := 0) hq (by omega)) (by omega)) ?_
  rintro r' h' ⟨rfl, rfl⟩
  refine w_iload_n mi_a7_18 rfl ?_
  refine w_bipushv (v := 60) mi_a7_19 (by decide) ?_
  refine w_icmp_ge mi_a7_21 36 (by decide) (fun _ => ?_) (fun c => absurd c (by decide))
  refine w_iload_n mi_a7_36 rfl ?_
  refine w_bipushv (v := 100) mi_a7_37 (by decide) ?_
  refine w_icmp_ge mi_a7_39 54 (by decide) (fun _ => ?_) (fun c => absurd c (by decide))
  refine w_iload_n mi_a7_54 rfl ?_
  refine w_sipushv (v := 140) mi_a7_55 (by decide) ?_
  refine w_icmp_ge mi_a7_58 73 (by decide) (fun _ => ?_) (fun c => absurd c (by decide))
  refine w_iload_n mi_a7_73 rfl ?_
  refine w_sipushv (v := 180) mi_a7_74 (by decide) ?_
  refine w_icmp_ge mi_a7_77 94 (by decide) (fun c => absurd c (by decide)) (fun _ => ?_)
  refine w_aload_n mi_a7_80 rfl ?_
  refine w_aload_n mi_a7_81 rfl ?_
  refine w_iload_n mi_a7_82 rfl ?_
  refine w_iload_n mi_a7_83 rfl ?_
  refine w_iload mi_a7_84 rfl ?_
  refine w_iconstv (v := 1) mi_a7_86 (by decide) ?_
  refine w_iaddv mi_a7_87 (nI_succ dp).symm ?_
  refine w_callV mi_a7_88 rfl rfl 4 ⟨rfl, rfl⟩ ⟨Nat.le_of_ble_eq_true rfl, Nat.le_of_ble_eq_true rfl⟩ rfl rfl rfl rfl (bd_142 H (dp := dp + 1) (by omega) hk he (by omega) (by rw [ac_kp_len]; exact hq) (by rw [ac_kp_ran]; simp only [List.length_cons, List.length_nil]; omega) hj) ?_
  rintro r' h' ⟨rfl, rfl⟩
  refine w_goto mi_a7_91 105 (by decide) ?_
  exact w_ireturn mi_a7_105 rfl ⟨rfl, by rw [ac_kp_cons 142 (ac_trs (ac_tr f (nI k)) (nI k) 142 [1000, 1, 1003, 1210, 4, 1003])]⟩
theorem rb_150 {f : Nat} (H : rn_ok f) {D : Nat} {n m tc pu stt : Int32} {q : List Int32 × Nat} {dv tk : List (Option Nat)} {dyn : mi_H} {j dp k : Nat} {x v c r v2 c2 : Int32} {w1 w2 : Value} {rs : List Value} (hD : 3 * (f + 1) + 3 ≤ D) (hk : k < 11) (he : ac_ev (f + 1) (nI k) 150 x v c = some (r, v2, c2)) (hdp : dp + (f + 1) ≤ 41) (hq : q.1.length = 64) (hn : q.2 + (ac_tr (f + 1) (nI k) 150).length < 2 ^ 31) (hj : dyn[j]? = some (dc (nI k) w1 w2 v c rs)) : mi_WC D 7 [.ref 1, .ref (j + 6), .int 150, .int x, .int (nI dp)] (kh n m tc pu stt q dv tk dyn) (fun r' h' => r' = some (.int r) ∧ h' = kh n m tc pu stt (ac_kp (ac_tr (f + 1) (nI k) 150) q) dv tk (dyn.set j (dc (nI k) w1 w2 v2 c2 rs))) := by
  obtain ⟨D, rfl⟩ : ∃ D', D = D' + 1 := ⟨D - 1, by omega⟩
  have ht : ac_tr (f + 1) (nI k) 150 = 150 :: ac_trs (ac_tr f (nI k)) (nI k) 150 [1000, 1105, 1001, 1003] := by rw [ac_tr, show ac_tk 150 = some [1000, 1105, 1001, 1003] from by decide +kernel]; rfl
  rw [ht] at hn ⊢
  rw [List.length_cons] at hn
  refine mi_WC.of (X := mi_m7) rfl (Nat.le_of_ble_eq_true rfl) ?_
  refine w_iload_n mi_a7_0 rfl ?_
  refine w_if_eq mi_a7_1 11 (by decide) (fun c => absurd c (by decide)) (fun _ => ?_)
  refine w_iload mi_a7_4 rfl ?_
  refine w_bipushv (v := 40) mi_a7_6 (by decide) ?_
  refine w_icmp_le mi_a7_8 13 (by decide) (fun _ => ?_) (fun c => absurd (nI_le (a := dp) (b := 40) (by omega) (by decide)) c)
  refine w_aload_n mi_a7_13 rfl ?_
  refine w_iload_n mi_a7_14 rfl ?_
  refine w_callV mi_a7_15 rfl rfl 1 ⟨rfl, rfl⟩ ⟨Nat.le_of_ble_eq_true rfl, Nat.le_of_ble_eq_true rfl⟩ rfl rfl rfl rfl (mi_WC.mono (s_begin (d := 0) hq (by omega)) (by omega)) ?_
  rintro r' h' ⟨rfl, rfl⟩
  refine w_iload_n mi_a7_18 rfl ?_
  refine w_bipushv (v := 60) mi_a7_19 (by decide) ?_
  refine w_icmp_ge mi_a7_21 36 (by decide) (fun _ => ?_) (fun c => absurd c (by decide))
  refine w_iload_n mi_a7_36 rfl ?_
  refine w_bipushv (v := 100) mi_a7_37 (by decide) ?_
  refine w_icmp_ge mi_a7_39 54 (by decide) (fun _ => ?_) (fun c => absurd c (by decide))
  refine w_iload_n mi_a7_54 rfl ?_
  refine w_sipushv (v := 140) mi_a7_55 (by decide) ?_
  refine w_icmp_ge mi_a7_58 73 (by decide) (fun _ => ?_) (fun c => absurd c (by decide))
  refine w_iload_n mi_a7_73 rfl ?_
  refine w_sipushv (v := 180) mi_a7_74 (by decide) ?_
  refine w_icmp_ge mi_a7_77 94 (by decide) (fun c => absurd c (by decide)) (fun _ => ?_)
  refine w_aload_n mi_a7_80 rfl ?_
  refine w_aload_n mi_a7_81 rfl ?_
  refine w_iload_n mi_a7_82 rfl ?_
  refine w_iload_n mi_a7_83 rfl ?_
  refine w_iload mi_a7_84 rfl ?_
  refine w_iconstv (v := 1) mi_a7_86 (by decide) ?_
  refine w_iaddv mi_a7_87 (nI_succ dp).symm ?_
  refine w_callV mi_a7_88 rfl rfl 4 ⟨rfl, rfl⟩ ⟨Nat.le_of_ble_eq_true rfl, Nat.le_of_ble_eq_true rfl⟩ rfl rfl rfl rfl (bd_150 H (dp := dp + 1) (by omega) hk he (by omega) (by rw [ac_kp_len]; exact hq) (by rw [ac_kp_ran]; simp only [List.length_cons, List.length_nil]; omega) hj) ?_
  rintro r' h' ⟨rfl, rfl⟩
  refine w_goto mi_a7_91 105 (by decide) ?_
  exact w_ireturn mi_a7_105 rfl ⟨rfl, by rw [ac_kp_cons 150 (ac_trs (ac_tr f (nI k)) (nI k) 150 [1000, 1105, 1001, 1003])]⟩
theorem rb_151 {f : Nat} (H : rn_ok f) {D : Nat} {n m tc pu stt : Int32} {q : List Int32 × Nat} {dv tk : List (Option Nat)} {dyn : mi_H} {j dp k : Nat} {x v c r v2 c2 : Int32} {w1 w2 : Value} {rs : List Value} (hD : 3 * (f + 1) + 3 ≤ D) (hk : k < 11) (he : ac_ev (f + 1) (nI k) 151 x v c = some (r, v2, c2)) (hdp : dp + (f + 1) ≤ 41) (hq : q.1.length = 64) (hn : q.2 + (ac_tr (f + 1) (nI k) 151).length < 2 ^ 31) (hj : dyn[j]? = some (dc (nI k) w1 w2 v c rs)) : mi_WC D 7 [.ref 1, .ref (j + 6), .int 151, .int x, .int (nI dp)] (kh n m tc pu stt q dv tk dyn) (fun r' h' => r' = some (.int r) ∧ h' = kh n m tc pu stt (ac_kp (ac_tr (f + 1) (nI k) 151) q) dv tk (dyn.set j (dc (nI k) w1 w2 v2 c2 rs))) := by
  obtain ⟨D, rfl⟩ : ∃ D', D = D' + 1 := ⟨D - 1, by omega⟩
  have ht : ac_tr (f + 1) (nI k) 151 = 151 :: ac_trs (ac_tr f (nI k)) (nI k) 151 [1000, 1209, 0, 1102, 1006] := by rw [ac_tr, show ac_tk 151 = some [1000, 1209, 0, 1102, 1006] from by decide +kernel]; rfl
  rw [ht] at hn ⊢
  rw [List.length_cons] at hn
  refine mi_WC.of (X := mi_m7) rfl (Nat.le_of_ble_eq_true rfl) ?_
  refine w_iload_n mi_a7_0 rfl ?_
  refine w_if_eq mi_a7_1 11 (by decide) (fun c => absurd c (by decide)) (fun _ => ?_)
  refine w_iload mi_a7_4 rfl ?_
  refine w_bipushv (v := 40) mi_a7_6 (by decide) ?_
  refine w_icmp_le mi_a7_8 13 (by decide) (fun _ => ?_) (fun c => absurd (nI_le (a := dp) (b := 40) (by omega) (by decide)) c)
  refine w_aload_n mi_a7_13 rfl ?_
  refine w_iload_n mi_a7_14 rfl ?_
  refine w_callV mi_a7_15 rfl rfl 1 ⟨rfl, rfl⟩ ⟨Nat.le_of_ble_eq_true rfl, Nat.le_of_ble_eq_true rfl⟩ rfl rfl rfl rfl (mi_WC.mono (s_begin (d := 0) hq (by omega)) (by omega)) ?_
  rintro r' h' ⟨rfl, rfl⟩
  refine w_iload_n mi_a7_18 rfl ?_
  refine w_bipushv (v := 60) mi_a7_19 (by decide) ?_
  refine w_icmp_ge mi_a7_21 36 (by decide) (fun _ => ?_) (fun c => absurd c (by decide))
  refine w_iload_n mi_a7_36 rfl ?_
  refine w_bipushv (v := 100) mi_a7_37 (by decide) ?_
  refine w_icmp_ge mi_a7_39 54 (by decide) (fun _ => ?_) (fun c => absurd c (by decide))
  refine w_iload_n mi_a7_54 rfl ?_
  refine w_sipushv (v := 140) mi_a7_55 (by decide) ?_
  refine w_icmp_ge mi_a7_58 73 (by decide) (fun _ => ?_) (fun c => absurd c (by decide))
  refine w_iload_n mi_a7_73 rfl ?_
  refine w_sipushv (v := 180) mi_a7_74 (by decide) ?_
  refine w_icmp_ge mi_a7_77 94 (by decide) (fun c => absurd c (by decide)) (fun _ => ?_)
  refine w_aload_n mi_a7_80 rfl ?_
  refine w_aload_n mi_a7_81 rfl ?_
  refine w_iload_n mi_a7_82 rfl ?_
  refine w_iload_n mi_a7_83 rfl ?_
  refine w_iload mi_a7_84 rfl ?_
  refine w_iconstv (v := 1) mi_a7_86 (by decide) ?_
  refine w_iaddv mi_a7_87 (nI_succ dp).symm ?_
  refine w_callV mi_a7_88 rfl rfl 4 ⟨rfl, rfl⟩ ⟨Nat.le_of_ble_eq_true rfl, Nat.le_of_ble_eq_true rfl⟩ rfl rfl rfl rfl (bd_151 H (dp := dp + 1) (by omega) hk he (by omega) (by rw [ac_kp_len]; exact hq) (by rw [ac_kp_ran]; simp only [List.length_cons, List.length_nil]; omega) hj) ?_
  rintro r' h' ⟨rfl, rfl⟩
  refine w_goto mi_a7_91 105 (by decide) ?_
  exact w_ireturn mi_a7_105 rfl ⟨rfl, by rw [ac_kp_cons 151 (ac_trs (ac_tr f (nI k)) (nI k) 151 [1000, 1209, 0, 1102, 1006])]⟩
theorem rb_152 {f : Nat} (H : rn_ok f) {D : Nat} {n m tc pu stt : Int32} {q : List Int32 × Nat} {dv tk : List (Option Nat)} {dyn : mi_H} {j dp k : Nat} {x v c r v2 c2 : Int32} {w1 w2 : Value} {rs : List Value} (hD : 3 * (f + 1) + 3 ≤ D) (hk : k < 11) (he : ac_ev (f + 1) (nI k) 152 x v c = some (r, v2, c2)) (hdp : dp + (f + 1) ≤ 41) (hq : q.1.length = 64) (hn : q.2 + (ac_tr (f + 1) (nI k) 152).length < 2 ^ 31) (hj : dyn[j]? = some (dc (nI k) w1 w2 v c rs)) : mi_WC D 7 [.ref 1, .ref (j + 6), .int 152, .int x, .int (nI dp)] (kh n m tc pu stt q dv tk dyn) (fun r' h' => r' = some (.int r) ∧ h' = kh n m tc pu stt (ac_kp (ac_tr (f + 1) (nI k) 152) q) dv tk (dyn.set j (dc (nI k) w1 w2 v2 c2 rs))) := by
  obtain ⟨D, rfl⟩ : ∃ D', D = D' + 1 := ⟨D - 1, by omega⟩
  have ht : ac_tr (f + 1) (nI k) 152 = 152 :: ac_trs (ac_tr f (nI k)) (nI k) 152 [1000, 1340, 1, 1003] := by rw [ac_tr, show ac_tk 152 = some [1000, 1340, 1, 1003] from by decide +kernel]; rfl
  rw [ht] at hn ⊢
  rw [List.length_cons] at hn
  refine mi_WC.of (X := mi_m7) rfl (Nat.le_of_ble_eq_true rfl) ?_
  refine w_iload_n mi_a7_0 rfl ?_
  refine w_if_eq mi_a7_1 11 (by decide) (fun c => absurd c (by decide)) (fun _ => ?_)
  refine w_iload mi_a7_4 rfl ?_
  refine w_bipushv (v := 40) mi_a7_6 (by decide) ?_
  refine w_icmp_le mi_a7_8 13 (by decide) (fun _ => ?_) (fun c => absurd (nI_le (a := dp) (b := 40) (by omega) (by decide)) c)
  refine w_aload_n mi_a7_13 rfl ?_
  refine w_iload_n mi_a7_14 rfl ?_
  refine w_callV mi_a7_15 rfl rfl 1 ⟨rfl, rfl⟩ ⟨Nat.le_of_ble_eq_true rfl, Nat.le_of_ble_eq_true rfl⟩ rfl rfl rfl rfl (mi_WC.mono (s_begin (d := 0) hq (by omega)) (by omega)) ?_
  rintro r' h' ⟨rfl, rfl⟩
  refine w_iload_n mi_a7_18 rfl ?_
  refine w_bipushv (v := 60) mi_a7_19 (by decide) ?_
  refine w_icmp_ge mi_a7_21 36 (by decide) (fun _ => ?_) (fun c => absurd c (by decide))
  refine w_iload_n mi_a7_36 rfl ?_
  refine w_bipushv (v := 100) mi_a7_37 (by decide) ?_
  refine w_icmp_ge mi_a7_39 54 (by decide) (fun _ => ?_) (fun c => absurd c (by decide))
  refine w_iload_n mi_a7_54 rfl ?_
  refine w_sipushv (v := 140) mi_a7_55 (by decide) ?_
  refine w_icmp_ge mi_a7_58 73 (by decide) (fun _ => ?_) (fun c => absurd c (by decide))
  refine w_iload_n mi_a7_73 rfl ?_
  refine w_sipushv (v := 180) mi_a7_74 (by decide) ?_
  refine w_icmp_ge mi_a7_77 94 (by decide) (fun c => absurd c (by decide)) (fun _ => ?_)
  refine w_aload_n mi_a7_80 rfl ?_
  refine w_aload_n mi_a7_81 rfl ?_
  refine w_iload_n mi_a7_82 rfl ?_
  refine w_iload_n mi_a7_83 rfl ?_
  refine w_iload mi_a7_84 rfl ?_
  refine w_iconstv (v := 1) mi_a7_86 (by decide) ?_
  refine w_iaddv mi_a7_87 (nI_succ dp).symm ?_
  refine w_callV mi_a7_88 rfl rfl 4 ⟨rfl, rfl⟩ ⟨Nat.le_of_ble_eq_true rfl, Nat.le_of_ble_eq_true rfl⟩ rfl rfl rfl rfl (bd_152 H (dp := dp + 1) (by omega) hk he (by omega) (by rw [ac_kp_len]; exact hq) (by rw [ac_kp_ran]; simp only [List.length_cons, List.length_nil]; omega) hj) ?_
  rintro r' h' ⟨rfl, rfl⟩
  refine w_goto mi_a7_91 105 (by decide) ?_
  exact w_ireturn mi_a7_105 rfl ⟨rfl, by rw [ac_kp_cons 152 (ac_trs (ac_tr f (nI k)) (nI k) 152 [1000, 1340, 1, 1003])]⟩
theorem rb_160 {f : Nat} (H : rn_ok f) {D : Nat} {n m tc pu stt : Int32} {q : List Int32 × Nat} {dv tk : List (Option Nat)} {dyn : mi_H} {j dp k : Nat} {x v c r v2 c2 : Int32} {w1 w2 : Value} {rs : List Value} (hD : 3 * (f + 1) + 3 ≤ D) (hk : k < 11) (he : ac_ev (f + 1) (nI k) 160 x v c = some (r, v2, c2)) (hdp : dp + (f + 1) ≤ 41) (hq : q.1.length = 64) (hn : q.2 + (ac_tr (f + 1) (nI k) 160).length < 2 ^ 31) (hj : dyn[j]? = some (dc (nI k) w1 w2 v c rs)) : mi_WC D 7 [.ref 1, .ref (j + 6), .int 160, .int x, .int (nI dp)] (kh n m tc pu stt q dv tk dyn) (fun r' h' => r' = some (.int r) ∧ h' = kh n m tc pu stt (ac_kp (ac_tr (f + 1) (nI k) 160) q) dv tk (dyn.set j (dc (nI k) w1 w2 v2 c2 rs))) := by
  obtain ⟨D, rfl⟩ : ∃ D', D = D' + 1 := ⟨D - 1, by omega⟩
  have ht : ac_tr (f + 1) (nI k) 160 = 160 :: ac_trs (ac_tr f (nI k)) (nI k) 160 [1000] := by rw [ac_tr, show ac_tk 160 = some [1000] from by decide +kernel]; rfl
  rw [ht] at hn ⊢
  rw [List.length_cons] at hn
  refine mi_WC.of (X := mi_m7) rfl (Nat.le_of_ble_eq_true rfl) ?_
  refine w_iload_n mi_a7_0 rfl ?_
  refine w_if_eq mi_a7_1 11 (by decide) (fun c => absurd c (by decide)) (fun _ => ?_)
  refine w_iload mi_a7_4 rfl ?_
  refine w_bipushv (v := 40) mi_a7_6 (by decide) ?_
  refine w_icmp_le mi_a7_8 13 (by decide) (fun _ => ?_) (fun c => absurd (nI_le (a := dp) (b := 40) (by omega) (by decide)) c)
  refine w_aload_n mi_a7_13 rfl ?_
  refine w_iload_n mi_a7_14 rfl ?_
  refine w_callV mi_a7_15 rfl rfl 1 ⟨rfl, rfl⟩ ⟨Nat.le_of_ble_eq_true rfl, Nat.le_of_ble_eq_true rfl⟩ rfl rfl rfl rfl (mi_WC.mono (s_begin (d := 0) hq (by omega)) (by omega)) ?_
  rintro r' h' ⟨rfl, rfl⟩
  refine w_iload_n mi_a7_18 rfl ?_
  refine w_bipushv (v := 60) mi_a7_19 (by decide) ?_
  refine w_icmp_ge mi_a7_21 36 (by decide) (fun _ => ?_) (fun c => absurd c (by decide))
  refine w_iload_n mi_a7_36 rfl ?_
  refine w_bipushv (v := 100) mi_a7_37 (by decide) ?_
  refine w_icmp_ge mi_a7_39 54 (by decide) (fun _ => ?_) (fun c => absurd c (by decide))
  refine w_iload_n mi_a7_54 rfl ?_
  refine w_sipushv (v := 140) mi_a7_55 (by decide) ?_
  refine w_icmp_ge mi_a7_58 73 (by decide) (fun _ => ?_) (fun c => absurd c (by decide))
  refine w_iload_n mi_a7_73 rfl ?_
  refine w_sipushv (v := 180) mi_a7_74 (by decide) ?_
  refine w_icmp_ge mi_a7_77 94 (by decide) (fun c => absurd c (by decide)) (fun _ => ?_)
  refine w_aload_n mi_a7_80 rfl ?_
  refine w_aload_n mi_a7_81 rfl ?_
  refine w_iload_n mi_a7_82 rfl ?_
  refine w_iload_n mi_a7_83 rfl ?_
  refine w_iload mi_a7_84 rfl ?_
  refine w_iconstv (v := 1) mi_a7_86 (by decide) ?_
  refine w_iaddv mi_a7_87 (nI_succ dp).symm ?_
  refine w_callV mi_a7_88 rfl rfl 4 ⟨rfl, rfl⟩ ⟨Nat.le_of_ble_eq_true rfl, Nat.le_of_ble_eq_true rfl⟩ rfl rfl rfl rfl (bd_160 H (dp := dp + 1) (by omega) hk he (by omega) (by rw [ac_kp_len]; exact hq) (by rw [ac_kp_ran]; simp only [List.length_cons, List.length_nil]; omega) hj) ?_
  rintro r' h' ⟨rfl, rfl⟩
  refine w_goto mi_a7_91 105 (by decide) ?_
  exact w_ireturn mi_a7_105 rfl ⟨rfl, by rw [ac_kp_cons 160 (ac_trs (ac_tr f (nI k)) (nI k) 160 [1000])]⟩
theorem rb_161 {f : Nat} (H : rn_ok f) {D : Nat} {n m tc pu stt : Int32} {q : List Int32 × Nat} {dv tk : List (Option Nat)} {dyn : mi_H} {j dp k : Nat} {x v c r v2 c2 : Int32} {w1 w2 : Value} {rs : List Value} (hD : 3 * (f + 1) + 3 ≤ D) (hk : k < 11) (he : ac_ev (f + 1) (nI k) 161 x v c = some (r, v2, c2)) (hdp : dp + (f + 1) ≤ 41) (hq : q.1.length = 64) (hn : q.2 + (ac_tr (f + 1) (nI k) 161).length < 2 ^ 31) (hj : dyn[j]? = some (dc (nI k) w1 w2 v c rs)) : mi_WC D 7 [.ref 1, .ref (j + 6), .int 161, .int x, .int (nI dp)] (kh n m tc pu stt q dv tk dyn) (fun r' h' => r' = some (.int r) ∧ h' = kh n m tc pu stt (ac_kp (ac_tr (f + 1) (nI k) 161) q) dv tk (dyn.set j (dc (nI k) w1 w2 v2 c2 rs))) := by
  obtain ⟨D, rfl⟩ : ∃ D', D = D' + 1 := ⟨D - 1, by omega⟩
  have ht : ac_tr (f + 1) (nI k) 161 = 161 :: ac_trs (ac_tr f (nI k)) (nI k) 161 [1000, 1368, 255, 1007] := by rw [ac_tr, show ac_tk 161 = some [1000, 1368, 255, 1007] from by decide +kernel]; rfl
  rw [ht] at hn ⊢
  rw [List.length_cons] at hn
  refine mi_WC.of (X := mi_m7) rfl (Nat.le_of_ble_eq_true rfl) ?_
  refine w_iload_n mi_a7_0 rfl ?_
  refine w_if_eq mi_a7_1 11 (by decide) (fun c => absurd c (by decide)) (fun _ => ?_)
  refine w_iload mi_a7_4 rfl ?_
  refine w_bipushv (v := 40) mi_a7_6 (by decide) ?_
  refine w_icmp_le mi_a7_8 13 (by decide) (fun _ => ?_) (fun c => absurd (nI_le (a := dp) (b := 40) (by omega) (by decide)) c)
  refine w_aload_n mi_a7_13 rfl ?_
  refine w_iload_n mi_a7_14 rfl ?_
  refine w_callV mi_a7_15 rfl rfl 1 ⟨rfl, rfl⟩ ⟨Nat.le_of_ble_eq_true rfl, Nat.le_of_ble_eq_true rfl⟩ rfl rfl rfl rfl (mi_WC.mono (s_begin (d := 0) hq (by omega)) (by omega)) ?_
  rintro r' h' ⟨rfl, rfl⟩
  refine w_iload_n mi_a7_18 rfl ?_
  refine w_bipushv (v := 60) mi_a7_19 (by decide) ?_
  refine w_icmp_ge mi_a7_21 36 (by decide) (fun _ => ?_) (fun c => absurd c (by decide))
  refine w_iload_n mi_a7_36 rfl ?_
  refine w_bipushv (v := 100) mi_a7_37 (by decide) ?_
  refine w_icmp_ge mi_a7_39 54 (by decide) (fun _ => ?_) (fun c => absurd c (by decide))
  refine w_iload_n mi_a7_54 rfl ?_
  refine w_sipushv (v := 140) mi_a7_55 (by decide) ?_
  refine w_icmp_ge mi_a7_58 73 (by decide) (fun _ => ?_) (fun c => absurd c (by decide))
  refine w_iload_n mi_a7_73 rfl ?_
  refine w_sipushv (v := 180) mi_a7_74 (by decide) ?_
  refine w_icmp_ge mi_a7_77 94 (by decide) (fun c => absurd c (by decide)) (fun _ => ?_)
  refine w_aload_n mi_a7_80 rfl ?_
  refine w_aload_n mi_a7_81 rfl ?_
  refine w_iload_n mi_a7_82 rfl ?_
  refine w_iload_n mi_a7_83 rfl ?_
  refine w_iload mi_a7_84 rfl ?_
  refine w_iconstv (v := 1) mi_a7_86 (by decide) ?_
  refine w_iaddv mi_a7_87 (nI_succ dp).symm ?_
  refine w_callV mi_a7_88 rfl rfl 4 ⟨rfl, rfl⟩ ⟨Nat.le_of_ble_eq_true rfl, Nat.le_of_ble_eq_true rfl⟩ rfl rfl rfl rfl (bd_161 H (dp := dp + 1) (by omega) hk he (by omega) (by rw [ac_kp_len]; exact hq) (by rw [ac_kp_ran]; simp only [List.length_cons, List.length_nil]; omega) hj) ?_
  rintro r' h' ⟨rfl, rfl⟩
  refine w_goto mi_a7_91 105 (by decide) ?_
  exact w_ireturn mi_a7_105 rfl ⟨rfl, by rw [ac_kp_cons 161 (ac_trs (ac_tr f (nI k)) (nI k) 161 [1000, 1368, 255, 1007])]⟩
theorem rb_162 {f : Nat} (H : rn_ok f) {D : Nat} {n m tc pu stt : Int32} {q : List Int32 × Nat} {dv tk : List (Option Nat)} {dyn : mi_H} {j dp k : Nat} {x v c r v2 c2 : Int32} {w1 w2 : Value} {rs : List Value} (hD : 3 * (f + 1) + 3 ≤ D) (hk : k < 11) (he : ac_ev (f + 1) (nI k) 162 x v c = some (r, v2, c2)) (hdp : dp + (f + 1) ≤ 41) (hq : q.1.length = 64) (hn : q.2 + (ac_tr (f + 1) (nI k) 162).length < 2 ^ 31) (hj : dyn[j]? = some (dc (nI k) w1 w2 v c rs)) : mi_WC D 7 [.ref 1, .ref (j + 6), .int 162, .int x, .int (nI dp)] (kh n m tc pu stt q dv tk dyn) (fun r' h' => r' = some (.int r) ∧ h' = kh n m tc pu stt (ac_kp (ac_tr (f + 1) (nI k) 162) q) dv tk (dyn.set j (dc (nI k) w1 w2 v2 c2 rs))) := by
  obtain ⟨D, rfl⟩ : ∃ D', D = D' + 1 := ⟨D - 1, by omega⟩
  have ht : ac_tr (f + 1) (nI k) 162 = 162 :: ac_trs (ac_tr f (nI k)) (nI k) 162 [1000, 99, 1003] := by rw [ac_tr, show ac_tk 162 = some [1000, 99, 1003] from by decide +kernel]; rfl
  rw [ht] at hn ⊢
  rw [List.length_cons] at hn
  refine mi_WC.of (X := mi_m7) rfl (Nat.le_of_ble_eq_true rfl) ?_
  refine w_iload_n mi_a7_0 rfl ?_
  refine w_if_eq mi_a7_1 11 (by decide) (fun c => absurd c (by decide)) (fun _ => ?_)
  refine w_iload mi_a7_4 rfl ?_
  refine w_bipushv (v := 40) mi_a7_6 (by decide) ?_
  refine w_icmp_le mi_a7_8 13 (by decide) (fun _ => ?_) (fun c => absurd (nI_le (a := dp) (b := 40) (by omega) (by decide)) c)
  refine w_aload_n mi_a7_13 rfl ?_
  refine w_iload_n mi_a7_14 rfl ?_
  refine w_callV mi_a7_15 rfl rfl 1 ⟨rfl, rfl⟩ ⟨Nat.le_of_ble_eq_true rfl, Nat.le_of_ble_eq_true rfl⟩ rfl rfl rfl rfl (mi_WC.mono (s_begin (d := 0) hq (by omega)) (by omega)) ?_
  rintro r' h' ⟨rfl, rfl⟩
  refine w_iload_n mi_a7_18 rfl ?_
  refine w_bipushv (v := 60) mi_a7_19 (by decide) ?_
  refine w_icmp_ge mi_a7_21 36 (by decide) (fun _ => ?_) (fun c => absurd c (by decide))
  refine w_iload_n mi_a7_36 rfl ?_
  refine w_bipushv (v := 100) mi_a7_37 (by decide) ?_
  refine w_icmp_ge mi_a7_39 54 (by decide) (fun _ => ?_) (fun c => absurd c (by decide))
  refine w_iload_n mi_a7_54 rfl ?_
  refine w_sipushv (v := 140) mi_a7_55 (by decide) ?_
  refine w_icmp_ge mi_a7_58 73 (by decide) (fun _ => ?_) (fun c => absurd c (by decide))
  refine w_iload_n mi_a7_73 rfl ?_
  refine w_sipushv (v := 180) mi_a7_74 (by decide) ?_
  refine w_icmp_ge mi_a7_77 94 (by decide) (fun c => absurd c (by decide)) (fun _ => ?_)
  refine w_aload_n mi_a7_80 rfl ?_
  refine w_aload_n mi_a7_81 rfl ?_
  refine w_iload_n mi_a7_82 rfl ?_
  refine w_iload_n mi_a7_83 rfl ?_
  refine w_iload mi_a7_84 rfl ?_
  refine w_iconstv (v := 1) mi_a7_86 (by decide) ?_
  refine w_iaddv mi_a7_87 (nI_succ dp).symm ?_
  refine w_callV mi_a7_88 rfl rfl 4 ⟨rfl, rfl⟩ ⟨Nat.le_of_ble_eq_true rfl, Nat.le_of_ble_eq_true rfl⟩ rfl rfl rfl rfl (bd_162 H (dp := dp + 1) (by omega) hk he (by omega) (by rw [ac_kp_len]; exact hq) (by rw [ac_kp_ran]; simp only [List.length_cons, List.length_nil]; omega) hj) ?_
  rintro r' h' ⟨rfl, rfl⟩
  refine w_goto mi_a7_91 105 (by decide) ?_
  exact w_ireturn mi_a7_105 rfl ⟨rfl, by rw [ac_kp_cons 162 (ac_trs (ac_tr f (nI k)) (nI k) 162 [1000, 99, 1003])]⟩
theorem rb_163 {f : Nat} (H : rn_ok f) {D : Nat} {n m tc pu stt : Int32} {q : List Int32 × Nat} {dv tk : List (Option Nat)} {dyn : mi_H} {j dp k : Nat} {x v c r v2 c2 : Int32} {w1 w2 : Value} {rs : List Value} (hD : 3 * (f + 1) + 3 ≤ D) (hk : k < 11) (he : ac_ev (f + 1) (nI k) 163 x v c = some (r, v2, c2)) (hdp : dp + (f + 1) ≤ 41) (hq : q.1.length = 64) (hn : q.2 + (ac_tr (f + 1) (nI k) 163).length < 2 ^ 31) (hj : dyn[j]? = some (dc (nI k) w1 w2 v c rs)) : mi_WC D 7 [.ref 1, .ref (j + 6), .int 163, .int x, .int (nI dp)] (kh n m tc pu stt q dv tk dyn) (fun r' h' => r' = some (.int r) ∧ h' = kh n m tc pu stt (ac_kp (ac_tr (f + 1) (nI k) 163) q) dv tk (dyn.set j (dc (nI k) w1 w2 v2 c2 rs))) := by
  obtain ⟨D, rfl⟩ : ∃ D', D = D' + 1 := ⟨D - 1, by omega⟩
  have ht : ac_tr (f + 1) (nI k) 163 = 163 :: ac_trs (ac_tr f (nI k)) (nI k) 163 [1000, 2162, 1, 1209, 1003] := by rw [ac_tr, show ac_tk 163 = some [1000, 2162, 1, 1209, 1003] from by decide +kernel]; rfl
  rw [ht] at hn ⊢
  rw [List.length_cons] at hn
  refine mi_WC.of (X := mi_m7) rfl (Nat.le_of_ble_eq_true rfl) ?_
  refine w_iload_n mi_a7_0 rfl ?_
  refine w_if_eq mi_a7_1 11 (by decide) (fun c => absurd c (by decide)) (fun _ => ?_)
  refine w_iload mi_a7_4 rfl ?_
  refine w_bipushv (v := 40) mi_a7_6 (by decide) ?_
  refine w_icmp_le mi_a7_8 13 (by decide) (fun _ => ?_) (fun c => absurd (nI_le (a := dp) (b := 40) (by omega) (by decide)) c)
  refine w_aload_n mi_a7_13 rfl ?_
  refine w_iload_n mi_a7_14 rfl ?_
  refine w_callV mi_a7_15 rfl rfl 1 ⟨rfl, rfl⟩ ⟨Nat.le_of_ble_eq_true rfl, Nat.le_of_ble_eq_true rfl⟩ rfl rfl rfl rfl (mi_WC.mono (s_begin (d := 0) hq (by omega)) (by omega)) ?_
  rintro r' h' ⟨rfl, rfl⟩
  refine w_iload_n mi_a7_18 rfl ?_
  refine w_bipushv (v := 60) mi_a7_19 (by decide) ?_
  refine w_icmp_ge mi_a7_21 36 (by decide) (fun _ => ?_) (fun c => absurd c (by decide))
  refine w_iload_n mi_a7_36 rfl ?_
  refine w_bipushv (v := 100) mi_a7_37 (by decide) ?_
  refine w_icmp_ge mi_a7_39 54 (by decide) (fun _ => ?_) (fun c => absurd c (by decide))
  refine w_iload_n mi_a7_54 rfl ?_
  refine w_sipushv (v := 140) mi_a7_55 (by decide) ?_
  refine w_icmp_ge mi_a7_58 73 (by decide) (fun _ => ?_) (fun c => absurd c (by decide))
  refine w_iload_n mi_a7_73 rfl ?_
  refine w_sipushv (v := 180) mi_a7_74 (by decide) ?_
  refine w_icmp_ge mi_a7_77 94 (by decide) (fun c => absurd c (by decide)) (fun _ => ?_)
  refine w_aload_n mi_a7_80 rfl ?_
  refine w_aload_n mi_a7_81 rfl ?_
  refine w_iload_n mi_a7_82 rfl ?_
  refine w_iload_n mi_a7_83 rfl ?_
  refine w_iload mi_a7_84 rfl ?_
  refine w_iconstv (v := 1) mi_a7_86 (by decide) ?_
  refine w_iaddv mi_a7_87 (nI_succ dp).symm ?_
  refine w_callV mi_a7_88 rfl rfl 4 ⟨rfl, rfl⟩ ⟨Nat.le_of_ble_eq_true rfl, Nat.le_of_ble_eq_true rfl⟩ rfl rfl rfl rfl (bd_163 H (dp := dp + 1) (by omega) hk he (by omega) (by rw [ac_kp_len]; exact hq) (by rw [ac_kp_ran]; simp only [List.length_cons, List.length_nil]; omega) hj) ?_
  rintro r' h' ⟨rfl, rfl⟩
  refine w_goto mi_a7_91 105 (by decide) ?_
  exact w_ireturn mi_a7_105 rfl ⟨rfl, by rw [ac_kp_cons 163 (ac_trs (ac_tr f (nI k)) (nI k) 163 [1000, 2162, 1, 1209, 1003])]⟩
theorem rb_180 {f : Nat} (H : rn_ok f) {D : Nat} {n m tc pu stt : Int32} {q : List Int32 × Nat} {dv tk : List (Option Nat)} {dyn : mi_H} {j dp k : Nat} {x v c r v2 c2 : Int32} {w1 w2 : Value} {rs : List Value} (hD : 3 * (f + 1) + 3 ≤ D) (hk : k < 11) (he : ac_ev (f + 1) (nI k) 180 x v c = some (r, v2, c2)) (hdp : dp + (f + 1) ≤ 41) (hq : q.1.length = 64) (hn : q.2 + (ac_tr (f + 1) (nI k) 180).length < 2 ^ 31) (hj : dyn[j]? = some (dc (nI k) w1 w2 v c rs)) : mi_WC D 7 [.ref 1, .ref (j + 6), .int 180, .int x, .int (nI dp)] (kh n m tc pu stt q dv tk dyn) (fun r' h' => r' = some (.int r) ∧ h' = kh n m tc pu stt (ac_kp (ac_tr (f + 1) (nI k) 180) q) dv tk (dyn.set j (dc (nI k) w1 w2 v2 c2 rs))) := by
  obtain ⟨D, rfl⟩ : ∃ D', D = D' + 1 := ⟨D - 1, by omega⟩
  have ht : ac_tr (f + 1) (nI k) 180 = 180 :: ac_trs (ac_tr f (nI k)) (nI k) 180 [1000, 1209, 1, 1004] := by rw [ac_tr, show ac_tk 180 = some [1000, 1209, 1, 1004] from by decide +kernel]; rfl
  rw [ht] at hn ⊢
  rw [List.length_cons] at hn
  refine mi_WC.of (X := mi_m7) rfl (Nat.le_of_ble_eq_true rfl) ?_
  refine w_iload_n mi_a7_0 rfl ?_
  refine w_if_eq mi_a7_1 11 (by decide) (fun c => absurd c (by decide)) (fun _ => ?_)
  refine w_iload mi_a7_4 rfl ?_
  refine w_bipushv (v := 40) mi_a7_6 (by decide) ?_
  refine w_icmp_le mi_a7_8 13 (by decide) (fun _ => ?_) (fun c => absurd (nI_le (a := dp) (b := 40) (by omega) (by decide)) c)
  refine w_aload_n mi_a7_13 rfl ?_
  refine w_iload_n mi_a7_14 rfl ?_
  refine w_callV mi_a7_15 rfl rfl 1 ⟨rfl, rfl⟩ ⟨Nat.le_of_ble_eq_true rfl, Nat.le_of_ble_eq_true rfl⟩ rfl rfl rfl rfl (mi_WC.mono (s_begin (d := 0) hq (by omega)) (by omega)) ?_
  rintro r' h' ⟨rfl, rfl⟩
  refine w_iload_n mi_a7_18 rfl ?_
  refine w_bipushv (v := 60) mi_a7_19 (by decide) ?_
  refine w_icmp_ge mi_a7_21 36 (by decide) (fun _ => ?_) (fun c => absurd c (by decide))
  refine w_iload_n mi_a7_36 rfl ?_
  refine w_bipushv (v := 100) mi_a7_37 (by decide) ?_
  refine w_icmp_ge mi_a7_39 54 (by decide) (fun _ => ?_) (fun c => absurd c (by decide))
  refine w_iload_n mi_a7_54 rfl ?_
  refine w_sipushv (v := 140) mi_a7_55 (by decide) ?_
  refine w_icmp_ge mi_a7_58 73 (by decide) (fun _ => ?_) (fun c => absurd c (by decide))
  refine w_iload_n mi_a7_73 rfl ?_
  refine w_sipushv (v := 180) mi_a7_74 (by decide) ?_
  refine w_icmp_ge mi_a7_77 94 (by decide) (fun _ => ?_) (fun c => absurd c (by decide))
  refine w_aload_n mi_a7_94 rfl ?_
  refine w_aload_n mi_a7_95 rfl ?_
  refine w_iload_n mi_a7_96 rfl ?_
  refine w_iload_n mi_a7_97 rfl ?_
  refine w_iload mi_a7_98 rfl ?_
  refine w_iconstv (v := 1) mi_a7_100 (by decide) ?_
  refine w_iaddv mi_a7_101 (nI_succ dp).symm ?_
  refine w_callV mi_a7_102 rfl rfl 4 ⟨rfl, rfl⟩ ⟨Nat.le_of_ble_eq_true rfl, Nat.le_of_ble_eq_true rfl⟩ rfl rfl rfl rfl (bd_180 H (dp := dp + 1) (by omega) hk he (by omega) (by rw [ac_kp_len]; exact hq) (by rw [ac_kp_ran]; simp only [List.length_cons, List.length_nil]; omega) hj) ?_
  rintro r' h' ⟨rfl, rfl⟩
  exact w_ireturn mi_a7_105 rfl ⟨rfl, by rw [ac_kp_cons 180 (ac_trs (ac_tr f (nI k)) (nI k) 180 [1000, 1209, 1, 1004])]⟩
theorem rb_181 {f : Nat} (H : rn_ok f) {D : Nat} {n m tc pu stt : Int32} {q : List Int32 × Nat} {dv tk : List (Option Nat)} {dyn : mi_H} {j dp k : Nat} {x v c r v2 c2 : Int32} {w1 w2 : Value} {rs : List Value} (hD : 3 * (f + 1) + 3 ≤ D) (hk : k < 11) (he : ac_ev (f + 1) (nI k) 181 x v c = some (r, v2, c2)) (hdp : dp + (f + 1) ≤ 41) (hq : q.1.length = 64) (hn : q.2 + (ac_tr (f + 1) (nI k) 181).length < 2 ^ 31) (hj : dyn[j]? = some (dc (nI k) w1 w2 v c rs)) : mi_WC D 7 [.ref 1, .ref (j + 6), .int 181, .int x, .int (nI dp)] (kh n m tc pu stt q dv tk dyn) (fun r' h' => r' = some (.int r) ∧ h' = kh n m tc pu stt (ac_kp (ac_tr (f + 1) (nI k) 181) q) dv tk (dyn.set j (dc (nI k) w1 w2 v2 c2 rs))) := by
  obtain ⟨D, rfl⟩ : ∃ D', D = D' + 1 := ⟨D - 1, by omega⟩
  have ht : ac_tr (f + 1) (nI k) 181 = 181 :: ac_trs (ac_tr f (nI k)) (nI k) 181 [1000, 1202, 2, 1101, 1003] := by rw [ac_tr, show ac_tk 181 = some [1000, 1202, 2, 1101, 1003] from by decide +kernel]; rfl
  rw [ht] at hn ⊢
  rw [List.length_cons] at hn
  refine mi_WC.of (X := mi_m7) rfl (Nat.le_of_ble_eq_true rfl) ?_
  refine w_iload_n mi_a7_0 rfl ?_
  refine w_if_eq mi_a7_1 11 (by decide) (fun c => absurd c (by decide)) (fun _ => ?_)
  refine w_iload mi_a7_4 rfl ?_
  refine w_bipushv (v := 40) mi_a7_6 (by decide) ?_
  refine w_icmp_le mi_a7_8 13 (by decide) (fun _ => ?_) (fun c => absurd (nI_le (a := dp) (b := 40) (by omega) (by decide)) c)
  refine w_aload_n mi_a7_13 rfl ?_
  refine w_iload_n mi_a7_14 rfl ?_
  refine w_callV mi_a7_15 rfl rfl 1 ⟨rfl, rfl⟩ ⟨Nat.le_of_ble_eq_true rfl, Nat.le_of_ble_eq_true rfl⟩ rfl rfl rfl rfl (mi_WC.mono (s_begin (d := 0) hq (by omega)) (by omega)) ?_
  rintro r' h' ⟨rfl, rfl⟩
  refine w_iload_n mi_a7_18 rfl ?_
  refine w_bipushv (v := 60) mi_a7_19 (by decide) ?_
  refine w_icmp_ge mi_a7_21 36 (by decide) (fun _ => ?_) (fun c => absurd c (by decide))
  refine w_iload_n mi_a7_36 rfl ?_
  refine w_bipushv (v := 100) mi_a7_37 (by decide) ?_
  refine w_icmp_ge mi_a7_39 54 (by decide) (fun _ => ?_) (fun c => absurd c (by decide))
  refine w_iload_n mi_a7_54 rfl ?_
  refine w_sipushv (v := 140) mi_a7_55 (by decide) ?_
  refine w_icmp_ge mi_a7_58 73 (by decide) (fun _ => ?_) (fun c => absurd c (by decide))
  refine w_iload_n mi_a7_73 rfl ?_
  refine w_sipushv (v := 180) mi_a7_74 (by decide) ?_
  refine w_icmp_ge mi_a7_77 94 (by decide) (fun _ => ?_) (fun c => absurd c (by decide))
  refine w_aload_n mi_a7_94 rfl ?_
  refine w_aload_n mi_a7_95 rfl ?_
  refine w_iload_n mi_a7_96 rfl ?_
  refine w_iload_n mi_a7_97 rfl ?_
  refine w_iload mi_a7_98 rfl ?_
  refine w_iconstv (v := 1) mi_a7_100 (by decide) ?_
  refine w_iaddv mi_a7_101 (nI_succ dp).symm ?_
  refine w_callV mi_a7_102 rfl rfl 4 ⟨rfl, rfl⟩ ⟨Nat.le_of_ble_eq_true rfl, Nat.le_of_ble_eq_true rfl⟩ rfl rfl rfl rfl (bd_181 H (dp := dp + 1) (by omega) hk he (by omega) (by rw [ac_kp_len]; exact hq) (by rw [ac_kp_ran]; simp only [List.length_cons, List.length_nil]; omega) hj) ?_
  rintro r' h' ⟨rfl, rfl⟩
  exact w_ireturn mi_a7_105 rfl ⟨rfl, by rw [ac_kp_cons 181 (ac_trs (ac_tr f (nI k)) (nI k) 181 [1000, 1202, 2, 1101, 1003])]⟩
theorem rb_190 {f : Nat} (H : rn_ok f) {D : Nat} {n m tc pu stt : Int32} {q : List Int32 × Nat} {dv tk : List (Option Nat)} {dyn : mi_H} {j dp k : Nat} {x v c r v2 c2 : Int32} {w1 w2 : Value} {rs : List Value} (hD : 3 * (f + 1) + 3 ≤ D) (hk : k < 11) (he : ac_ev (f + 1) (nI k) 190 x v c = some (r, v2, c2)) (hdp : dp + (f + 1) ≤ 41) (hq : q.1.length = 64) (hn : q.2 + (ac_tr (f + 1) (nI k) 190).length < 2 ^ 31) (hj : dyn[j]? = some (dc (nI k) w1 w2 v c rs)) : mi_WC D 7 [.ref 1, .ref (j + 6), .int 190, .int x, .int (nI dp)] (kh n m tc pu stt q dv tk dyn) (fun r' h' => r' = some (.int r) ∧ h' = kh n m tc pu stt (ac_kp (ac_tr (f + 1) (nI k) 190) q) dv tk (dyn.set j (dc (nI k) w1 w2 v2 c2 rs))) := by
  obtain ⟨D, rfl⟩ : ∃ D', D = D' + 1 := ⟨D - 1, by omega⟩
  have ht : ac_tr (f + 1) (nI k) 190 = 190 :: ac_trs (ac_tr f (nI k)) (nI k) 190 [1000, 1110, 2, 1005] := by rw [ac_tr, show ac_tk 190 = some [1000, 1110, 2, 1005] from by decide +kernel]; rfl
  rw [ht] at hn ⊢
  rw [List.length_cons] at hn
  refine mi_WC.of (X := mi_m7) rfl (Nat.le_of_ble_eq_true rfl) ?_
  refine w_iload_n mi_a7_0 rfl ?_
  refine w_if_eq mi_a7_1 11 (by decide) (fun c => absurd c (by decide)) (fun _ => ?_)
  refine w_iload mi_a7_4 rfl ?_
  refine w_bipushv (v := 40) mi_a7_6 (by decide) ?_
  refine w_icmp_le mi_a7_8 13 (by decide) (fun _ => ?_) (fun c => absurd (nI_le (a := dp) (b := 40) (by omega) (by decide)) c)
  refine w_aload_n mi_a7_13 rfl ?_
  refine w_iload_n mi_a7_14 rfl ?_
  refine w_callV mi_a7_15 rfl rfl 1 ⟨rfl, rfl⟩ ⟨Nat.le_of_ble_eq_true rfl, Nat.le_of_ble_eq_true rfl⟩ rfl rfl rfl rfl (mi_WC.mono (s_begin (d := 0) hq (by omega)) (by omega)) ?_
  rintro r' h' ⟨rfl, rfl⟩
  refine w_iload_n mi_a7_18 rfl ?_
  refine w_bipushv (v := 60) mi_a7_19 (by decide) ?_
  refine w_icmp_ge mi_a7_21 36 (by decide) (fun _ => ?_) (fun c => absurd c (by decide))
  refine w_iload_n mi_a7_36 rfl ?_
  refine w_bipushv (v := 100) mi_a7_37 (by decide) ?_
  refine w_icmp_ge mi_a7_39 54 (by decide) (fun _ => ?_) (fun c => absurd c (by decide))
  refine w_iload_n mi_a7_54 rfl ?_
  refine w_sipushv (v := 140) mi_a7_55 (by decide) ?_
  refine w_icmp_ge mi_a7_58 73 (by decide) (fun _ => ?_) (fun c => absurd c (by decide))
  refine w_iload_n mi_a7_73 rfl ?_
  refine w_sipushv (v := 180) mi_a7_74 (by decide) ?_
  refine w_icmp_ge mi_a7_77 94 (by decide) (fun _ => ?_) (fun c => absurd c (by decide))
  refine w_aload_n mi_a7_94 rfl ?_
  refine w_aload_n mi_a7_95 rfl ?_
  refine w_iload_n mi_a7_96 rfl ?_
  refine w_iload_n mi_a7_97 rfl ?_
  refine w_iload mi_a7_98 rfl ?_
  refine w_iconstv (v := 1) mi_a7_100 (by decide) ?_
  refine w_iaddv mi_a7_101 (nI_succ dp).symm ?_
  refine w_callV mi_a7_102 rfl rfl 4 ⟨rfl, rfl⟩ ⟨Nat.le_of_ble_eq_true rfl, Nat.le_of_ble_eq_true rfl⟩ rfl rfl rfl rfl (bd_190 H (dp := dp + 1) (by omega) hk he (by omega) (by rw [ac_kp_len]; exact hq) (by rw [ac_kp_ran]; simp only [List.length_cons, List.length_nil]; omega) hj) ?_
  rintro r' h' ⟨rfl, rfl⟩
  exact w_ireturn mi_a7_105 rfl ⟨rfl, by rw [ac_kp_cons 190 (ac_trs (ac_tr f (nI k)) (nI k) 190 [1000, 1110, 2, 1005])]⟩
theorem rb_200 {f : Nat} (H : rn_ok f) {D : Nat} {n m tc pu stt : Int32} {q : List Int32 × Nat} {dv tk : List (Option Nat)} {dyn : mi_H} {j dp k : Nat} {x v c r v2 c2 : Int32} {w1 w2 : Value} {rs : List Value} (hD : 3 * (f + 1) + 3 ≤ D) (hk : k < 11) (he : ac_ev (f + 1) (nI k) 200 x v c = some (r, v2, c2)) (hdp : dp + (f + 1) ≤ 41) (hq : q.1.length = 64) (hn : q.2 + (ac_tr (f + 1) (nI k) 200).length < 2 ^ 31) (hj : dyn[j]? = some (dc (nI k) w1 w2 v c rs)) : mi_WC D 7 [.ref 1, .ref (j + 6), .int 200, .int x, .int (nI dp)] (kh n m tc pu stt q dv tk dyn) (fun r' h' => r' = some (.int r) ∧ h' = kh n m tc pu stt (ac_kp (ac_tr (f + 1) (nI k) 200) q) dv tk (dyn.set j (dc (nI k) w1 w2 v2 c2 rs))) := by
  obtain ⟨D, rfl⟩ : ∃ D', D = D' + 1 := ⟨D - 1, by omega⟩
  have ht : ac_tr (f + 1) (nI k) 200 = 200 :: ac_trs (ac_tr f (nI k)) (nI k) 200 [1002, 1000, 1003] := by rw [ac_tr, show ac_tk 200 = some [1002, 1000, 1003] from by decide +kernel]; rfl
  rw [ht] at hn ⊢
  rw [List.length_cons] at hn
  refine mi_WC.of (X := mi_m7) rfl (Nat.le_of_ble_eq_true rfl) ?_
  refine w_iload_n mi_a7_0 rfl ?_
  refine w_if_eq mi_a7_1 11 (by decide) (fun c => absurd c (by decide)) (fun _ => ?_)
  refine w_iload mi_a7_4 rfl ?_
  refine w_bipushv (v := 40) mi_a7_6 (by decide) ?_
  refine w_icmp_le mi_a7_8 13 (by decide) (fun _ => ?_) (fun c => absurd (nI_le (a := dp) (b := 40) (by omega) (by decide)) c)
  refine w_aload_n mi_a7_13 rfl ?_
  refine w_iload_n mi_a7_14 rfl ?_
  refine w_callV mi_a7_15 rfl rfl 1 ⟨rfl, rfl⟩ ⟨Nat.le_of_ble_eq_true rfl, Nat.le_of_ble_eq_true rfl⟩ rfl rfl rfl rfl (mi_WC.mono (s_begin (d := 0) hq (by omega)) (by omega)) ?_
  rintro r' h' ⟨rfl, rfl⟩
  refine w_iload_n mi_a7_18 rfl ?_
  refine w_bipushv (v := 60) mi_a7_19 (by decide) ?_
  refine w_icmp_ge mi_a7_21 36 (by decide) (fun _ => ?_) (fun c => absurd c (by decide))
  refine w_iload_n mi_a7_36 rfl ?_
  refine w_bipushv (v := 100) mi_a7_37 (by decide) ?_
  refine w_icmp_ge mi_a7_39 54 (by decide) (fun _ => ?_) (fun c => absurd c (by decide))
  refine w_iload_n mi_a7_54 rfl ?_
  refine w_sipushv (v := 140) mi_a7_55 (by decide) ?_
  refine w_icmp_ge mi_a7_58 73 (by decide) (fun _ => ?_) (fun c => absurd c (by decide))
  refine w_iload_n mi_a7_73 rfl ?_
  refine w_sipushv (v := 180) mi_a7_74 (by decide) ?_
  refine w_icmp_ge mi_a7_77 94 (by decide) (fun _ => ?_) (fun c => absurd c (by decide))
  refine w_aload_n mi_a7_94 rfl ?_
  refine w_aload_n mi_a7_95 rfl ?_
  refine w_iload_n mi_a7_96 rfl ?_
  refine w_iload_n mi_a7_97 rfl ?_
  refine w_iload mi_a7_98 rfl ?_
  refine w_iconstv (v := 1) mi_a7_100 (by decide) ?_
  refine w_iaddv mi_a7_101 (nI_succ dp).symm ?_
  refine w_callV mi_a7_102 rfl rfl 4 ⟨rfl, rfl⟩ ⟨Nat.le_of_ble_eq_true rfl, Nat.le_of_ble_eq_true rfl⟩ rfl rfl rfl rfl (bd_200 H (dp := dp + 1) (by omega) hk he (by omega) (by rw [ac_kp_len]; exact hq) (by rw [ac_kp_ran]; simp only [List.length_cons, List.length_nil]; omega) hj) ?_
  rintro r' h' ⟨rfl, rfl⟩
  exact w_ireturn mi_a7_105 rfl ⟨rfl, by rw [ac_kp_cons 200 (ac_trs (ac_tr f (nI k)) (nI k) 200 [1002, 1000, 1003])]⟩
theorem rb_201 {f : Nat} (H : rn_ok f) {D : Nat} {n m tc pu stt : Int32} {q : List Int32 × Nat} {dv tk : List (Option Nat)} {dyn : mi_H} {j dp k : Nat} {x v c r v2 c2 : Int32} {w1 w2 : Value} {rs : List Value} (hD : 3 * (f + 1) + 3 ≤ D) (hk : k < 11) (he : ac_ev (f + 1) (nI k) 201 x v c = some (r, v2, c2)) (hdp : dp + (f + 1) ≤ 41) (hq : q.1.length = 64) (hn : q.2 + (ac_tr (f + 1) (nI k) 201).length < 2 ^ 31) (hj : dyn[j]? = some (dc (nI k) w1 w2 v c rs)) : mi_WC D 7 [.ref 1, .ref (j + 6), .int 201, .int x, .int (nI dp)] (kh n m tc pu stt q dv tk dyn) (fun r' h' => r' = some (.int r) ∧ h' = kh n m tc pu stt (ac_kp (ac_tr (f + 1) (nI k) 201) q) dv tk (dyn.set j (dc (nI k) w1 w2 v2 c2 rs))) := by
  obtain ⟨D, rfl⟩ : ∃ D', D = D' + 1 := ⟨D - 1, by omega⟩
  have ht : ac_tr (f + 1) (nI k) 201 = 201 :: ac_trs (ac_tr f (nI k)) (nI k) 201 [1000, 1367, 1000, 2200, 1003] := by rw [ac_tr, show ac_tk 201 = some [1000, 1367, 1000, 2200, 1003] from by decide +kernel]; rfl
  rw [ht] at hn ⊢
  rw [List.length_cons] at hn
  refine mi_WC.of (X := mi_m7) rfl (Nat.le_of_ble_eq_true rfl) ?_
  refine w_iload_n mi_a7_0 rfl ?_
  refine w_if_eq mi_a7_1 11 (by decide) (fun c => absurd c (by decide)) (fun _ => ?_)
  refine w_iload mi_a7_4 rfl ?_
  refine w_bipushv (v := 40) mi_a7_6 (by decide) ?_
  refine w_icmp_le mi_a7_8 13 (by decide) (fun _ => ?_) (fun c => absurd (nI_le (a := dp) (b := 40) (by omega) (by decide)) c)
  refine w_aload_n mi_a7_13 rfl ?_
  refine w_iload_n mi_a7_14 rfl ?_
  refine w_callV mi_a7_15 rfl rfl 1 ⟨rfl, rfl⟩ ⟨Nat.le_of_ble_eq_true rfl, Nat.le_of_ble_eq_true rfl⟩ rfl rfl rfl rfl (mi_WC.mono (s_begin (d := 0) hq (by omega)) (by omega)) ?_
  rintro r' h' ⟨rfl, rfl⟩
  refine w_iload_n mi_a7_18 rfl ?_
  refine w_bipushv (v := 60) mi_a7_19 (by decide) ?_
  refine w_icmp_ge mi_a7_21 36 (by decide) (fun _ => ?_) (fun c => absurd c (by decide))
  refine w_iload_n mi_a7_36 rfl ?_
  refine w_bipushv (v := 100) mi_a7_37 (by decide) ?_
  refine w_icmp_ge mi_a7_39 54 (by decide) (fun _ => ?_) (fun c => absurd c (by decide))
  refine w_iload_n mi_a7_54 rfl ?_
  refine w_sipushv (v := 140) mi_a7_55 (by decide) ?_
  refine w_icmp_ge mi_a7_58 73 (by decide) (fun _ => ?_) (fun c => absurd c (by decide))
  refine w_iload_n mi_a7_73 rfl ?_
  refine w_sipushv (v := 180) mi_a7_74 (by decide) ?_
  refine w_icmp_ge mi_a7_77 94 (by decide) (fun _ => ?_) (fun c => absurd c (by decide))
  refine w_aload_n mi_a7_94 rfl ?_
  refine w_aload_n mi_a7_95 rfl ?_
  refine w_iload_n mi_a7_96 rfl ?_
  refine w_iload_n mi_a7_97 rfl ?_
  refine w_iload mi_a7_98 rfl ?_
  refine w_iconstv (v := 1) mi_a7_100 (by decide) ?_
  refine w_iaddv mi_a7_101 (nI_succ dp).symm ?_
  refine w_callV mi_a7_102 rfl rfl 4 ⟨rfl, rfl⟩ ⟨Nat.le_of_ble_eq_true rfl, Nat.le_of_ble_eq_true rfl⟩ rfl rfl rfl rfl (bd_201 H (dp := dp + 1) (by omega) hk he (by omega) (by rw [ac_kp_len]; exact hq) (by rw [ac_kp_ran]; simp only [List.length_cons, List.length_nil]; omega) hj) ?_
  rintro r' h' ⟨rfl, rfl⟩
  exact w_ireturn mi_a7_105 rfl ⟨rfl, by rw [ac_kp_cons 201 (ac_trs (ac_tr f (nI k)) (nI k) 201 [1000, 1367, 1000, 2200, 1003])]⟩
theorem rb_202 {f : Nat} (H : rn_ok f) {D : Nat} {n m tc pu stt : Int32} {q : List Int32 × Nat} {dv tk : List (Option Nat)} {dyn : mi_H} {j dp k : Nat} {x v c r v2 c2 : Int32} {w1 w2 : Value} {rs : List Value} (hD : 3 * (f + 1) + 3 ≤ D) (hk : k < 11) (he : ac_ev (f + 1) (nI k) 202 x v c = some (r, v2, c2)) (hdp : dp + (f + 1) ≤ 41) (hq : q.1.length = 64) (hn : q.2 + (ac_tr (f + 1) (nI k) 202).length < 2 ^ 31) (hj : dyn[j]? = some (dc (nI k) w1 w2 v c rs)) : mi_WC D 7 [.ref 1, .ref (j + 6), .int 202, .int x, .int (nI dp)] (kh n m tc pu stt q dv tk dyn) (fun r' h' => r' = some (.int r) ∧ h' = kh n m tc pu stt (ac_kp (ac_tr (f + 1) (nI k) 202) q) dv tk (dyn.set j (dc (nI k) w1 w2 v2 c2 rs))) := by
  obtain ⟨D, rfl⟩ : ∃ D', D = D' + 1 := ⟨D - 1, by omega⟩
  have ht : ac_tr (f + 1) (nI k) 202 = 202 :: ac_trs (ac_tr f (nI k)) (nI k) 202 [1000, 1338, 1000, 1202, 1003] := by rw [ac_tr, show ac_tk 202 = some [1000, 1338, 1000, 1202, 1003] from by decide +kernel]; rfl
  rw [ht] at hn ⊢
  rw [List.length_cons] at hn
  refine mi_WC.of (X := mi_m7) rfl (Nat.le_of_ble_eq_true rfl) ?_
  refine w_iload_n mi_a7_0 rfl ?_
  refine w_if_eq mi_a7_1 11 (by decide) (fun c => absurd c (by decide)) (fun _ => ?_)
  refine w_iload mi_a7_4 rfl ?_
  refine w_bipushv (v := 40) mi_a7_6 (by decide) ?_
  refine w_icmp_le mi_a7_8 13 (by decide) (fun _ => ?_) (fun c => absurd (nI_le (a := dp) (b := 40) (by omega) (by decide)) c)
  refine w_aload_n mi_a7_13 rfl ?_
  refine w_iload_n mi_a7_14 rfl ?_
  refine w_callV mi_a7_15 rfl rfl 1 ⟨rfl, rfl⟩ ⟨Nat.le_of_ble_eq_true rfl, Nat.le_of_ble_eq_true rfl⟩ rfl rfl rfl rfl (mi_WC.mono (s_begin (d := 0) hq (by omega)) (by omega)) ?_
  rintro r' h' ⟨rfl, rfl⟩
  refine w_iload_n mi_a7_18 rfl ?_
  refine w_bipushv (v := 60) mi_a7_19 (by decide) ?_
  refine w_icmp_ge mi_a7_21 36 (by decide) (fun _ => ?_) (fun c => absurd c (by decide))
  refine w_iload_n mi_a7_36 rfl ?_
  refine w_bipushv (v := 100) mi_a7_37 (by decide) ?_
  refine w_icmp_ge mi_a7_39 54 (by decide) (fun _ => ?_) (fun c => absurd c (by decide))
  refine w_iload_n mi_a7_54 rfl ?_
  refine w_sipushv (v := 140) mi_a7_55 (by decide) ?_
  refine w_icmp_ge mi_a7_58 73 (by decide) (fun _ => ?_) (fun c => absurd c (by decide))
  refine w_iload_n mi_a7_73 rfl ?_
  refine w_sipushv (v := 180) mi_a7_74 (by decide) ?_
  refine w_icmp_ge mi_a7_77 94 (by decide) (fun _ => ?_) (fun c => absurd c (by decide))
  refine w_aload_n mi_a7_94 rfl ?_
  refine w_aload_n mi_a7_95 rfl ?_
  refine w_iload_n mi_a7_96 rfl ?_
  refine w_iload_n mi_a7_97 rfl ?_
  refine w_iload mi_a7_98 rfl ?_
  refine w_iconstv (v := 1) mi_a7_100 (by decide) ?_
  refine w_iaddv mi_a7_101 (nI_succ dp).symm ?_
  refine w_callV mi_a7_102 rfl rfl 4 ⟨rfl, rfl⟩ ⟨Nat.le_of_ble_eq_true rfl, Nat.le_of_ble_eq_true rfl⟩ rfl rfl rfl rfl (bd_202 H (dp := dp + 1) (by omega) hk he (by omega) (by rw [ac_kp_len]; exact hq) (by rw [ac_kp_ran]; simp only [List.length_cons, List.length_nil]; omega) hj) ?_
  rintro r' h' ⟨rfl, rfl⟩
  exact w_ireturn mi_a7_105 rfl ⟨rfl, by rw [ac_kp_cons 202 (ac_trs (ac_tr f (nI k)) (nI k) 202 [1000, 1338, 1000, 1202, 1003])]⟩
theorem rb_204 {f : Nat} (H : rn_ok f) {D : Nat} {n m tc pu stt : Int32} {q : List Int32 × Nat} {dv tk : List (Option Nat)} {dyn : mi_H} {j dp k : Nat} {x v c r v2 c2 : Int32} {w1 w2 : Value} {rs : List Value} (hD : 3 * (f + 1) + 3 ≤ D) (hk : k < 11) (he : ac_ev (f + 1) (nI k) 204 x v c = some (r, v2, c2)) (hdp : dp + (f + 1) ≤ 41) (hq : q.1.length = 64) (hn : q.2 + (ac_tr (f + 1) (nI k) 204).length < 2 ^ 31) (hj : dyn[j]? = some (dc (nI k) w1 w2 v c rs)) : mi_WC D 7 [.ref 1, .ref (j + 6), .int 204, .int x, .int (nI dp)] (kh n m tc pu stt q dv tk dyn) (fun r' h' => r' = some (.int r) ∧ h' = kh n m tc pu stt (ac_kp (ac_tr (f + 1) (nI k) 204) q) dv tk (dyn.set j (dc (nI k) w1 w2 v2 c2 rs))) := by
  obtain ⟨D, rfl⟩ : ∃ D', D = D' + 1 := ⟨D - 1, by omega⟩
  have ht : ac_tr (f + 1) (nI k) 204 = 204 :: ac_trs (ac_tr f (nI k)) (nI k) 204 [1000, 1205, 1, 1003] := by rw [ac_tr, show ac_tk 204 = some [1000, 1205, 1, 1003] from by decide +kernel]; rfl
  rw [ht] at hn ⊢
  rw [List.length_cons] at hn
  refine mi_WC.of (X := mi_m7) rfl (Nat.le_of_ble_eq_true rfl) ?_
  refine w_iload_n mi_a7_0 rfl ?_
  refine w_if_eq mi_a7_1 11 (by decide) (fun c => absurd c (by decide)) (fun _ => ?_)
  refine w_iload mi_a7_4 rfl ?_
  refine w_bipushv (v := 40) mi_a7_6 (by decide) ?_
  refine w_icmp_le mi_a7_8 13 (by decide) (fun _ => ?_) (fun c => absurd (nI_le (a := dp) (b := 40) (by omega) (by decide)) c)
  refine w_aload_n mi_a7_13 rfl ?_
  refine w_iload_n mi_a7_14 rfl ?_
  refine w_callV mi_a7_15 rfl rfl 1 ⟨rfl, rfl⟩ ⟨Nat.le_of_ble_eq_true rfl, Nat.le_of_ble_eq_true rfl⟩ rfl rfl rfl rfl (mi_WC.mono (s_begin (d := 0) hq (by omega)) (by omega)) ?_
  rintro r' h' ⟨rfl, rfl⟩
  refine w_iload_n mi_a7_18 rfl ?_
  refine w_bipushv (v := 60) mi_a7_19 (by decide) ?_
  refine w_icmp_ge mi_a7_21 36 (by decide) (fun _ => ?_) (fun c => absurd c (by decide))
  refine w_iload_n mi_a7_36 rfl ?_
  refine w_bipushv (v := 100) mi_a7_37 (by decide) ?_
  refine w_icmp_ge mi_a7_39 54 (by decide) (fun _ => ?_) (fun c => absurd c (by decide))
  refine w_iload_n mi_a7_54 rfl ?_
  refine w_sipushv (v := 140) mi_a7_55 (by decide) ?_
  refine w_icmp_ge mi_a7_58 73 (by decide) (fun _ => ?_) (fun c => absurd c (by decide))
  refine w_iload_n mi_a7_73 rfl ?_
  refine w_sipushv (v := 180) mi_a7_74 (by decide) ?_
  refine w_icmp_ge mi_a7_77 94 (by decide) (fun _ => ?_) (fun c => absurd c (by decide))
  refine w_aload_n mi_a7_94 rfl ?_
  refine w_aload_n mi_a7_95 rfl ?_
  refine w_iload_n mi_a7_96 rfl ?_
  refine w_iload_n mi_a7_97 rfl ?_
  refine w_iload mi_a7_98 rfl ?_
  refine w_iconstv (v := 1) mi_a7_100 (by decide) ?_
  refine w_iaddv mi_a7_101 (nI_succ dp).symm ?_
  refine w_callV mi_a7_102 rfl rfl 4 ⟨rfl, rfl⟩ ⟨Nat.le_of_ble_eq_true rfl, Nat.le_of_ble_eq_true rfl⟩ rfl rfl rfl rfl (bd_204 H (dp := dp + 1) (by omega) hk he (by omega) (by rw [ac_kp_len]; exact hq) (by rw [ac_kp_ran]; simp only [List.length_cons, List.length_nil]; omega) hj) ?_
  rintro r' h' ⟨rfl, rfl⟩
  exact w_ireturn mi_a7_105 rfl ⟨rfl, by rw [ac_kp_cons 204 (ac_trs (ac_tr f (nI k)) (nI k) 204 [1000, 1205, 1, 1003])]⟩
theorem ac_cases {b : Int32} {ts : List Int32} (h : ac_tk b = some ts) : b ∈ ([10, 11, 20, 21, 30, 40, 41, 50, 51, 52, 60, 61, 62, 63, 64, 70, 100, 101, 110, 111, 112, 120, 130, 131, 140, 141, 142, 150, 151, 152, 160, 161, 162, 163, 180, 181, 190, 200, 201, 202, 204] : List Int32) := by
  unfold ac_tk at h
  cases hf : ac_tab.find? (fun q => q.1 == b) with
  | none => rw [hf] at h; cases h
  | some q =>
    have hm := List.mem_of_find?_eq_some hf
    have hb : q.1 = b := by simpa using List.find?_some hf
    rw [← hb]
    exact List.mem_map_of_mem (f := fun q : Int32 × Int32 × List Int32 => q.1) hm
theorem rn_all : ∀ f, rn_ok f := by
  intro f
  induction f with
  | zero => intro D n m tc pu stt q dv tk dyn j dp k b x v c r v2 c2 w1 w2 rs hD hk he; cases he
  | succ f H =>
    intro D n m tc pu stt q dv tk dyn j dp k b x v c r v2 c2 w1 w2 rs hD hk he hdp hq hn hj
    have htk : ∃ ts, ac_tk b = some ts := by
      cases h : ac_tk b with
      | none => unfold ac_ev at he; rw [h] at he; cases he
      | some ts => exact ⟨ts, rfl⟩
    obtain ⟨ts, htk⟩ := htk
    have hm := ac_cases htk
    clear htk
    simp only [List.mem_cons, List.not_mem_nil, or_false] at hm
    rcases hm with rfl | rfl | rfl | rfl | rfl | rfl | rfl | rfl | rfl | rfl | rfl | rfl | rfl | rfl | rfl | rfl | rfl | rfl | rfl | rfl | rfl | rfl | rfl | rfl | rfl | rfl | rfl | rfl | rfl | rfl | rfl | rfl | rfl | rfl | rfl | rfl | rfl | rfl | rfl | rfl | rfl
    · exact rb_10 H hD hk he hdp hq hn hj
    · exact rb_11 H hD hk he hdp hq hn hj
    · exact rb_20 H hD hk he hdp hq hn hj
    · exact rb_21 H hD hk he hdp hq hn hj
    · exact rb_30 H hD hk he hdp hq hn hj
    · exact rb_40 H hD hk he hdp hq hn hj
    · exact rb_41 H hD hk he hdp hq hn hj
    · exact rb_50 H hD hk he hdp hq hn hj
    · exact rb_51 H hD hk he hdp hq hn hj
    · exact rb_52 H hD hk he hdp hq hn hj
    · exact rb_60 H hD hk he hdp hq hn hj
    · exact rb_61 H hD hk he hdp hq hn hj
    · exact rb_62 H hD hk he hdp hq hn hj
    · exact rb_63 H hD hk he hdp hq hn hj
    · exact rb_64 H hD hk he hdp hq hn hj
    · exact rb_70 H hD hk he hdp hq hn hj
    · exact rb_100 H hD hk he hdp hq hn hj
    · exact rb_101 H hD hk he hdp hq hn hj
    · exact rb_110 H hD hk he hdp hq hn hj
    · exact rb_111 H hD hk he hdp hq hn hj
    · exact rb_112 H hD hk he hdp hq hn hj
    · exact rb_120 H hD hk he hdp hq hn hj
    · exact rb_130 H hD hk he hdp hq hn hj
    · exact rb_131 H hD hk he hdp hq hn hj
    · exact rb_140 H hD hk he hdp hq hn hj
    · exact rb_141 H hD hk he hdp hq hn hj
    · exact rb_142 H hD hk he hdp hq hn hj
    · exact rb_150 H hD hk he hdp hq hn hj
    · exact rb_151 H hD hk he hdp hq hn hj
    · exact rb_152 H hD hk he hdp hq hn hj
    · exact rb_160 H hD hk he hdp hq hn hj
    · exact rb_161 H hD hk he hdp hq hn hj
    · exact rb_162 H hD hk he hdp hq hn hj
    · exact rb_163 H hD hk he hdp hq hn hj
    · exact rb_180 H hD hk he hdp hq hn hj
    · exact rb_181 H hD hk he hdp hq hn hj
    · exact rb_190 H hD hk he hdp hq hn hj
    · exact rb_200 H hD hk he hdp hq hn hj
    · exact rb_201 H hD hk he hdp hq hn hj
    · exact rb_202 H hD hk he hdp hq hn hj
    · exact rb_204 H hD hk he hdp hq hn hj
