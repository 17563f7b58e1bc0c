/-! THE MODEL'S ACTS: its machine with a stack does what the tokens say -/
/-- the model's cells -/
def mh (n m stt fr pl : Int32) (q : List Int32 × Nat) (kO vO cO tO fm to rw an zi fB fA fX pi : List Int32) : mi_H := [
  .inl (4, [.ref 1, .ref 2, .ref 3, .ref 4, .ref 5, .ref 6, .ref 7, .ref 8, .ref 9, .ref 10, .ref 11, .ref 12, .int n, .ref 13, .ref 14, .int m, .ref 15, .ref 16, .ref 17, .ref 18, .int (nI q.2), .int stt, .ref 19, .ref 20, .ref 21, .ref 22, .int fr, .int pl]),
  .inr (0, .inl mi_cd), .inr (0, .inl mi_sta), .inr (0, .inl mi_par), .inr (0, .inl mi_bea), .inr (0, .inl mi_has), .inr (0, .inl mi_ch), .inr (0, .inl mi_aw), .inr (0, .inl mi_ak), .inr (0, .inl kO), .inr (0, .inl vO), .inr (0, .inl cO), .inr (0, .inl tO), .inr (0, .inl fm), .inr (0, .inl to), .inr (0, .inl rw), .inr (0, .inl an), .inr (1, .inl zi), .inr (0, .inl q.1), .inr (0, .inl fB), .inr (0, .inl fA), .inr (0, .inl fX), .inr (0, .inl pi)]
theorem md_set (a : List Int32) (j y : Int32) (b : List Int32) : (a ++ j :: b).set a.length y = a ++ y :: b := by simp [List.set_append]
theorem md_get (a : List Int32) (y : Int32) (b : List Int32) : (a ++ y :: b)[a.length]? = some y := by simp
theorem md_len (a : List Int32) (y : Int32) (b : List Int32) : a.length < (a ++ y :: b).length := by simp
section MD
variable {n m stt fr pl : Int32} {q : List Int32 × Nat} {kO vO cO tO fm to rw an zi fB fA fX pi : List Int32}
theorem s_push {d : Nat} {y j : Int32} {pb jp : List Int32} (hp : pb.length < 1000) : mi_WC (d + 1) 63 [.ref 0, .int y] (mh n m stt fr (nI pb.length) q kO vO cO tO fm to rw an zi fB fA fX (pb ++ j :: jp)) (fun r h' => r = none ∧ h' = mh n m stt fr (nI (pb.length + 1)) q kO vO cO tO fm to rw an zi fB fA fX (pb ++ y :: jp)) := by
  have hi : (nI pb.length).toNatClampNeg = pb.length := nI_clamp (by omega)
  refine mi_WC.of (X := mi_m63) rfl (Nat.le_of_ble_eq_true rfl) ?_
  refine w_aload_n mi_a63_0 rfl ?_
  refine w_get mi_a63_1 rfl rfl rfl ?_
  refine w_aload_n mi_a63_4 rfl ?_
  refine w_get mi_a63_5 rfl rfl rfl ?_
  refine w_iload_n mi_a63_8 rfl ?_
  refine w_iast mi_a63_9 rfl (nI_pos (by omega)) (by rw [hi]; exact md_len _ _ _) ?_
  rw [hi, md_set]
  refine w_aload_n mi_a63_10 rfl ?_
  refine w_dup mi_a63_11 rfl ?_
  refine w_get mi_a63_12 rfl rfl rfl ?_
  refine w_iconstv (v := 1) mi_a63_15 (by decide) ?_
  refine w_iaddv mi_a63_16 (nI_succ _).symm ?_
  refine w_put mi_a63_17 rfl rfl (Nat.le_of_ble_eq_true rfl) rfl ?_
  exact w_vreturn mi_a63_20 rfl ⟨rfl, rfl⟩
theorem s_pop {d : Nat} {y : Int32} {pb jp : List Int32} (hp : pb.length < 1000) : mi_WC (d + 1) 64 [.ref 0] (mh n m stt fr (nI (pb.length + 1)) q kO vO cO tO fm to rw an zi fB fA fX (pb ++ y :: jp)) (fun r h' => r = some (.int y) ∧ h' = mh n m stt fr (nI pb.length) q kO vO cO tO fm to rw an zi fB fA fX (pb ++ y :: jp)) := by
  have hi : (nI pb.length).toNatClampNeg = pb.length := nI_clamp (by omega)
  refine mi_WC.of (X := mi_m64) rfl (Nat.le_of_ble_eq_true rfl) ?_
  refine w_aload_n mi_a64_0 rfl ?_
  refine w_dup mi_a64_1 rfl ?_
  refine w_get mi_a64_2 rfl rfl rfl ?_
  refine w_iconstv (v := 1) mi_a64_5 (by decide) ?_
  refine w_isubv mi_a64_6 (nI_pred _) ?_
  refine w_put mi_a64_7 rfl rfl (Nat.le_of_ble_eq_true rfl) rfl ?_
  refine w_aload_n mi_a64_10 rfl ?_
  refine w_get mi_a64_11 rfl rfl rfl ?_
  refine w_aload_n mi_a64_14 rfl ?_
  refine w_get mi_a64_15 rfl rfl rfl ?_
  refine w_iald mi_a64_18 rfl (nI_pos (by omega)) (by rw [hi]; exact md_get _ _ _) ?_
  exact w_ireturn mi_a64_19 rfl ⟨rfl, rfl⟩
theorem s_enter {d F : Nat} {b x p jb ja jx : Int32} {fb fa fx jB jA jX : List Int32} (hF : F < 1000) (h1 : fb.length = F) (h2 : fa.length = F) (h3 : fx.length = F) (hb : ac_at mi_sta b = some p) (hq : q.1.length = 64) (hn : q.2 + 1 < 2 ^ 31) :
  mi_WC (d + 1) 65 [.ref 0, .int b, .int x] (mh n m stt (nI F) pl q kO vO cO tO fm to rw an zi (fb ++ jb :: jB) (fa ++ ja :: jA) (fx ++ jx :: jX) pi) (fun r h' => r = none ∧ h' = mh n m stt (nI (F + 1)) pl (ac_kp [b] q) kO vO cO tO fm to rw an zi (fb ++ b :: jB) (fa ++ p :: jA) (fx ++ x :: jX) pi) := by
  obtain ⟨hb0, hb1⟩ := ac_at_inv hb
  have hi : (nI F).toNatClampNeg = F := nI_clamp (by omega)
  have hiq : (nI q.2).toNatClampNeg = q.2 := nI_clamp (by omega)
  refine mi_WC.of (X := mi_m65) rfl (Nat.le_of_ble_eq_true rfl) ?_
  refine w_aload_n mi_a65_0 rfl ?_
  refine w_get mi_a65_1 rfl rfl rfl ?_
  refine w_bipushv (v := 64) mi_a65_4 (by decide) ?_
  have fin : ∀ q1 : List Int32, q1 = (ac_kp [b] q).1 → mi_W d mi_m65 (19, [some (.ref 0), some (.int b), some (.int x)], [], mh n m stt (nI F) pl (q1, q.2) kO vO cO tO fm to rw an zi (fb ++ jb :: jB) (fa ++ ja :: jA) (fx ++ jx :: jX) pi) (fun r h' => r = none ∧ h' = mh n m stt (nI (F + 1)) pl (ac_kp [b] q) kO vO cO tO fm to rw an zi (fb ++ b :: jB) (fa ++ p :: jA) (fx ++ x :: jX) pi) := by
    intro q1 hq1
    refine w_aload_n mi_a65_19 rfl ?_
    refine w_dup mi_a65_20 rfl ?_
    refine w_get mi_a65_21 rfl rfl rfl ?_
    refine w_iconstv (v := 1) mi_a65_24 (by decide) ?_
    refine w_iaddv mi_a65_25 (nI_succ q.2).symm ?_
    refine w_put mi_a65_26 rfl rfl (Nat.le_of_ble_eq_true rfl) rfl ?_
    refine w_aload_n mi_a65_29 rfl ?_
    refine w_get mi_a65_30 rfl rfl rfl ?_
    refine w_aload_n mi_a65_33 rfl ?_
    refine w_get mi_a65_34 rfl rfl rfl ?_
    refine w_iload_n mi_a65_37 rfl ?_
    refine w_iast mi_a65_38 rfl (nI_pos (by omega)) (by rw [hi, ← h1]; exact md_len _ _ _) ?_
    rw [hi]
    refine w_aload_n mi_a65_39 rfl ?_
    refine w_get mi_a65_40 rfl rfl rfl ?_
    refine w_aload_n mi_a65_43 rfl ?_
    refine w_get mi_a65_44 rfl rfl rfl ?_
    refine w_aload_n mi_a65_47 rfl ?_
    refine w_get mi_a65_48 rfl rfl rfl ?_
    refine w_iload_n mi_a65_51 rfl ?_
    refine w_iald mi_a65_52 rfl hb0 hb1 ?_
    refine w_iast mi_a65_53 rfl (nI_pos (by omega)) (by rw [hi, ← h2]; exact md_len _ _ _) ?_
    rw [hi]
    refine w_aload_n mi_a65_54 rfl ?_
    refine w_get mi_a65_55 rfl rfl rfl ?_
    refine w_aload_n mi_a65_58 rfl ?_
    refine w_get mi_a65_59 rfl rfl rfl ?_
    refine w_iload_n mi_a65_62 rfl ?_
    refine w_iast mi_a65_63 rfl (nI_pos (by omega)) (by rw [hi, ← h3]; exact md_len _ _ _) ?_
    rw [hi]
    refine w_aload_n mi_a65_64 rfl ?_
    refine w_dup mi_a65_65 rfl ?_
    refine w_get mi_a65_66 rfl rfl rfl ?_
    refine w_iconstv (v := 1) mi_a65_69 (by decide) ?_
    refine w_iaddv mi_a65_70 (nI_succ F).symm ?_
    refine w_put mi_a65_71 rfl rfl (Nat.le_of_ble_eq_true rfl) rfl ?_
    refine w_vreturn mi_a65_74 rfl ⟨rfl, ?_⟩
    have e1 : (fb ++ jb :: jB).set F b = fb ++ b :: jB := by rw [← h1]; exact md_set _ _ _ _
    have e2 : (fa ++ ja :: jA).set F p = fa ++ p :: jA := by rw [← h2]; exact md_set _ _ _ _
    have e3 : (fx ++ jx :: jX).set F x = fx ++ x :: jX := by rw [← h3]; exact md_set _ _ _ _
    rw [e1, e2, e3, hq1]
    rfl
  refine w_icmp_ge mi_a65_6 19 (by decide) (fun c => ?_) (fun c => ?_)
  · refine fin q.1 ?_
    have h64 : ¬ q.2 < 64 := fun z => absurd c (nI_ge (a := q.2) (b := 64) z (by decide))
    simp [ac_kp, h64]
  · have h64 : q.2 < 64 := by
      rcases Nat.lt_or_ge q.2 64 with z | z
      · exact z
      · exact absurd (nI_le z (by omega)) c
    refine w_aload_n mi_a65_9 rfl ?_
    refine w_get mi_a65_10 rfl rfl rfl ?_
    refine w_aload_n mi_a65_13 rfl ?_
    refine w_get mi_a65_14 rfl rfl rfl ?_
    refine w_iload_n mi_a65_17 rfl ?_
    refine w_iast mi_a65_18 rfl (nI_pos (by omega)) (by rw [hiq, hq]; exact h64) ?_
    rw [hiq]
    exact fin (q.1.set q.2 b) (by simp [ac_kp, h64])
/-- one token that calls nobody -/
theorem s_step {d P dn : Nat} {o x v c v2 c2 : Int32} {st st2 pb jp : List Int32} (hP : pb.length = P) (hdn : dn < 2 ^ 31) (hv : vO[dn]? = some v) (hc : cO[dn]? = some c) (ho : ¬ 1100 ≤ o) (hst : st.length ≤ 4) (hjp : P + st.length + jp.length = 300) (hPb : P ≤ 280) (h : ac_st o x st v c = some (st2, v2, c2)) :
  mi_WC (d + 2) 67 [.ref 0, .int (nI dn), .int o, .int x] (mh n m stt fr (nI (P + st.length)) q kO vO cO tO fm to rw an zi fB fA fX (pb ++ st.reverse ++ jp)) (fun r h' => r = none ∧ ∃ jp2, P + st2.length + jp2.length = 300 ∧ st2.length ≤ 5 ∧ h' = mh n m stt fr (nI (P + st2.length)) q kO (vO.set dn v2) (cO.set dn c2) tO fm to rw an zi fB fA fX (pb ++ st2.reverse ++ jp2)) := by
  have hid : (nI dn).toNatClampNeg = dn := nI_clamp hdn
  have hvl := (List.getElem?_eq_some_iff.mp hv).1
  have hcl := (List.getElem?_eq_some_iff.mp hc).1
  have hvs : vO.set dn v = vO := by
    obtain ⟨a, b⟩ := List.getElem?_eq_some_iff.mp hv
    rw [← b]
    exact List.set_getElem_self a
  have hcs : cO.set dn c = cO := by
    obtain ⟨a, b⟩ := List.getElem?_eq_some_iff.mp hc
    rw [← b]
    exact List.set_getElem_self a
  obtain ⟨j, jp', rfl⟩ : ∃ j jp', jp = j :: jp' := by
    cases jp with
    | nil => simp at hjp; omega
    | cons a b => exact ⟨a, b, rfl⟩
  rw [List.length_cons] at hjp
  have hpl : (pb ++ st.reverse).length = P + st.length := by rw [List.length_append, List.length_reverse, hP]
  have push : ∀ (y : Int32) (L : List (Option Value)) (pc : Nat) (idx : Nat) (hl : mi_look mi_m67.1 pc = some (.invokevirtual idx, 3)) (hr : mi_look mi_m67.1 (pc + 3) = some (.return_, 1)) (hm : ((mi_Ml[mi_m67.2.1]?).getD []).lookup idx = some (63, false)), st2 = y :: st → v2 = v → c2 = c → mi_W (d + 1) mi_m67 (pc, L, [.int y, .ref 0], mh n m stt fr (nI (P + st.length)) q kO vO cO tO fm to rw an zi fB fA fX (pb ++ st.reverse ++ j :: jp')) (fun r h' => r = none ∧ ∃ jp2, P + st2.length + jp2.length = 300 ∧ st2.length ≤ 5 ∧ h' = mh n m stt fr (nI (P + st2.length)) q kO (vO.set dn v2) (cO.set dn c2) tO fm to rw an zi fB fA fX (pb ++ st2.reverse ++ jp2)) := by
    intro y L pc idx hl hr hm e1 e2 e3
    subst e1; subst e2; subst e3
    refine w_callV hl hm rfl 1 ⟨rfl, rfl⟩ ⟨Nat.le_of_ble_eq_true rfl, Nat.le_of_ble_eq_true rfl⟩ rfl rfl rfl rfl (by rw [← hpl]; exact s_push (by rw [hpl]; omega)) ?_
    rintro r' h' ⟨rfl, rfl⟩
    refine w_vreturn hr rfl ⟨rfl, jp', by rw [List.length_cons]; omega, by rw [List.length_cons]; omega, ?_⟩
    rw [hvs, hcs, hpl]
    simp [Nat.add_assoc]
  refine mi_WC.of (X := mi_m67) rfl (Nat.le_of_ble_eq_true rfl) ?_
  refine w_iload_n mi_a67_0 rfl ?_
  refine w_sipushv (v := 1000) mi_a67_1 (by decide) ?_
  unfold ac_st at h
  refine w_icmp_ge mi_a67_4 13 (by decide) (fun cc => ?_) (fun cc => ?_)
  rotate_left
  · have h1000 : o < 1000 := Int32.not_le.mp cc
    rw [if_pos h1000] at h
    cases h
    refine w_aload_n mi_a67_7 rfl ?_
    refine w_iload_n mi_a67_8 rfl ?_
    exact push o _ _ _ mi_a67_9 mi_a67_12 rfl rfl rfl rfl
  rw [if_neg (fun z => absurd cc (Int32.not_le.mpr z))] at h
  refine w_iload_n mi_a67_13 rfl ?_
  by_cases n0 : o = 1000
  · subst n0
    rw [if_pos rfl] at h
    cases h
    refine w_tswIn (off := 54) mi_a67_14 (by decide) (by decide) 68 (by decide) ?_
    refine w_aload_n mi_a67_68 rfl ?_
    refine w_iload_n mi_a67_69 rfl ?_
    exact push x _ _ _ mi_a67_70 mi_a67_73 rfl rfl rfl rfl
  rw [if_neg n0] at h
  by_cases n1 : o = 1001
  · subst n1
    rw [if_pos rfl] at h
    cases h
    refine w_tswIn (off := 60) mi_a67_14 (by decide) (by decide) 74 (by decide) ?_
    refine w_aload_n mi_a67_74 rfl ?_
    refine w_aload_n mi_a67_75 rfl ?_
    refine w_get mi_a67_76 rfl rfl rfl ?_
    refine w_iload_n mi_a67_79 rfl ?_
    refine w_iald mi_a67_80 rfl (nI_pos hdn) (by rw [hid]; exact hv) ?_
    exact push v _ _ _ mi_a67_81 mi_a67_84 rfl rfl rfl rfl
  rw [if_neg n1] at h
  by_cases n2 : o = 1002
  · subst n2
    rw [if_pos rfl] at h
    cases h
    refine w_tswIn (off := 71) mi_a67_14 (by decide) (by decide) 85 (by decide) ?_
    refine w_aload_n mi_a67_85 rfl ?_
    refine w_aload_n mi_a67_86 rfl ?_
    refine w_get mi_a67_87 rfl rfl rfl ?_
    refine w_iload_n mi_a67_90 rfl ?_
    refine w_iald mi_a67_91 rfl (nI_pos hdn) (by rw [hid]; exact hc) ?_
    exact push c _ _ _ mi_a67_92 mi_a67_95 rfl rfl rfl rfl
  rw [if_neg n2] at h
  by_cases n8 : o = 1008
  · subst n8
    rw [if_pos rfl] at h
    split at h
    · rename_i y r
      simp only [Option.some.injEq, Prod.mk.injEq] at h
      obtain ⟨q1, q2, q3⟩ := h
      subst q1; subst q2; subst q3
      refine w_tswIn (off := 82) mi_a67_14 (by decide) (by decide) 96 (by decide) ?_
      refine w_aload_n mi_a67_96 rfl ?_
      refine w_get mi_a67_97 rfl rfl rfl ?_
      refine w_iload_n mi_a67_100 rfl ?_
      refine w_aload_n mi_a67_101 rfl ?_
      have e1 : pb ++ (y :: r).reverse ++ j :: jp' = (pb ++ r.reverse) ++ y :: (j :: jp') := by simp
      have e2 : (pb ++ r.reverse).length = P + r.length := by rw [List.length_append, List.length_reverse, hP]
      have e5 : P + (y :: r).length = (pb ++ r.reverse).length + 1 := by rw [e2]; simp only [List.length_cons]; omega
      simp only [List.length_cons] at hjp hst
      refine w_callV mi_a67_102 rfl rfl 0 ⟨rfl, rfl⟩ ⟨Nat.le_of_ble_eq_true rfl, Nat.le_of_ble_eq_true rfl⟩ rfl rfl rfl rfl (by rw [e1, e5]; exact s_pop (by rw [e2]; omega)) ?_
      rintro r' h' ⟨rfl, rfl⟩
      refine w_iast mi_a67_105 rfl (nI_pos hdn) (by rw [hid]; exact hvl) ?_
      rw [hid]
      refine w_vreturn mi_a67_106 rfl ⟨rfl, y :: (j :: jp'), ?_, ?_, ?_⟩
      · simp only [List.length_cons]; omega
      · omega
      · rw [hcs, e2]; rfl
    · cases h
  rw [if_neg n8] at h
  by_cases n9 : o = 1009
  · subst n9
    rw [if_pos rfl] at h
    split at h
    · rename_i y r
      simp only [Option.some.injEq, Prod.mk.injEq] at h
      obtain ⟨q1, q2, q3⟩ := h
      subst q1; subst q2; subst q3
      refine w_tswIn (off := 93) mi_a67_14 (by decide) (by decide) 107 (by decide) ?_
      refine w_aload_n mi_a67_107 rfl ?_
      refine w_get mi_a67_108 rfl rfl rfl ?_
      refine w_iload_n mi_a67_111 rfl ?_
      refine w_aload_n mi_a67_112 rfl ?_
      have e1 : pb ++ (y :: r).reverse ++ j :: jp' = (pb ++ r.reverse) ++ y :: (j :: jp') := by simp
      have e2 : (pb ++ r.reverse).length = P + r.length := by rw [List.length_append, List.length_reverse, hP]
      have e5 : P + (y :: r).length = (pb ++ r.reverse).length + 1 := by rw [e2]; simp only [List.length_cons]; omega
      simp only [List.length_cons] at hjp hst
      refine w_callV mi_a67_113 rfl rfl 0 ⟨rfl, rfl⟩ ⟨Nat.le_of_ble_eq_true rfl, Nat.le_of_ble_eq_true rfl⟩ rfl rfl rfl rfl (by rw [e1, e5]; exact s_pop (by rw [e2]; omega)) ?_
      rintro r' h' ⟨rfl, rfl⟩
      refine w_iast mi_a67_116 rfl (nI_pos hdn) (by rw [hid]; exact hcl) ?_
      rw [hid]
      refine w_vreturn mi_a67_117 rfl ⟨rfl, y :: (j :: jp'), ?_, ?_, ?_⟩
      · simp only [List.length_cons]; omega
      · omega
      · rw [hvs, e2]; rfl
    · cases h
  rw [if_neg n9] at h
  split at h
  · rename_i y z r
    have hbin : mi_W (d + 1) mi_m67 (118, [some (.ref 0), some (.int (nI dn)), some (.int o), some (.int x), none, none], [], mh n m stt fr (nI (P + (y :: z :: r).length)) q kO vO cO tO fm to rw an zi fB fA fX (pb ++ (y :: z :: r).reverse ++ j :: jp')) (fun r h' => r = none ∧ ∃ jp2, P + st2.length + jp2.length = 300 ∧ st2.length ≤ 5 ∧ h' = mh n m stt fr (nI (P + st2.length)) q kO (vO.set dn v2) (cO.set dn c2) tO fm to rw an zi fB fA fX (pb ++ st2.reverse ++ jp2)) := by
      simp only [List.length_cons] at hjp hst
      have e1 : pb ++ (y :: z :: r).reverse ++ j :: jp' = (pb ++ (z :: r).reverse) ++ y :: (j :: jp') := by simp
      have e2 : (pb ++ (z :: r).reverse).length = P + r.length + 1 := by rw [List.length_append, List.length_reverse, hP]; rfl
      have e3 : (pb ++ (z :: r).reverse) ++ y :: (j :: jp') = (pb ++ r.reverse) ++ z :: (y :: (j :: jp')) := by simp
      have e4 : (pb ++ r.reverse).length = P + r.length := by rw [List.length_append, List.length_reverse, hP]
      have e5 : P + (y :: z :: r).length = (pb ++ (z :: r).reverse).length + 1 := by rw [e2]; simp only [List.length_cons]; omega
      refine w_aload_n mi_a67_118 rfl ?_
      refine w_callV mi_a67_119 rfl rfl 0 ⟨rfl, rfl⟩ ⟨Nat.le_of_ble_eq_true rfl, Nat.le_of_ble_eq_true rfl⟩ rfl rfl rfl rfl (by rw [e1, e5]; exact s_pop (by rw [e2]; omega)) ?_
      rintro r' h' ⟨rfl, rfl⟩
      refine w_istore mi_a67_122 (Nat.le_of_ble_eq_true rfl) ?_
      refine w_aload_n mi_a67_124 rfl ?_
      refine w_callV mi_a67_125 rfl rfl 0 ⟨rfl, rfl⟩ ⟨Nat.le_of_ble_eq_true rfl, Nat.le_of_ble_eq_true rfl⟩ rfl rfl rfl rfl (by rw [e3, e2, ← e4]; exact s_pop (by rw [e4]; omega)) ?_
      rintro r' h' ⟨rfl, rfl⟩
      have fin : ∀ (w : Int32) (L : List (Option Value)), some (w :: r, v, c) = some (st2, v2, c2) → mi_W (d + 1) mi_m67 (196, L, [.int w, .ref 0], mh n m stt fr (nI (pb ++ r.reverse).length) q kO vO cO tO fm to rw an zi fB fA fX ((pb ++ r.reverse) ++ z :: (y :: (j :: jp')))) (fun r h' => r = none ∧ ∃ jp2, P + st2.length + jp2.length = 300 ∧ st2.length ≤ 5 ∧ h' = mh n m stt fr (nI (P + st2.length)) q kO (vO.set dn v2) (cO.set dn c2) tO fm to rw an zi fB fA fX (pb ++ st2.reverse ++ jp2)) := by
        intro w L hw
        cases hw
        refine w_callV mi_a67_196 rfl rfl 1 ⟨rfl, rfl⟩ ⟨Nat.le_of_ble_eq_true rfl, Nat.le_of_ble_eq_true rfl⟩ rfl rfl rfl rfl (s_push (by rw [e4]; omega)) ?_
        rintro r' h' ⟨rfl, rfl⟩
        refine w_vreturn mi_a67_199 rfl ⟨rfl, y :: (j :: jp'), ?_, ?_, ?_⟩
        · simp only [List.length_cons]; omega
        · rw [List.length_cons]; omega
        · rw [hvs, hcs, e4]
          simp [Nat.add_assoc]
      refine w_istore mi_a67_128 (Nat.le_of_ble_eq_true rfl) ?_
      refine w_aload_n mi_a67_130 rfl ?_
      refine w_iload_n mi_a67_131 rfl ?_
      refine w_sipushv (v := 1003) mi_a67_132 (by decide) ?_
      refine w_icmp_ne mi_a67_135 146 (by decide) (fun cc => ?_) (fun cc => ?_)
      rotate_left
      · rw [if_pos cc] at h
        refine w_iload mi_a67_138 rfl ?_
        refine w_iload mi_a67_140 rfl ?_
        refine w_iadd mi_a67_142 ?_
        refine w_goto mi_a67_143 196 (by decide) ?_
        exact fin _ _ h
      rw [if_neg cc] at h
      refine w_iload_n mi_a67_146 rfl ?_
      refine w_sipushv (v := 1004) mi_a67_147 (by decide) ?_
      refine w_icmp_ne mi_a67_150 161 (by decide) (fun cc => ?_) (fun cc => ?_)
      rotate_left
      · rw [if_pos cc] at h
        refine w_iload mi_a67_153 rfl ?_
        refine w_iload mi_a67_155 rfl ?_
        refine w_isub mi_a67_157 ?_
        refine w_goto mi_a67_158 196 (by decide) ?_
        exact fin _ _ h
      rw [if_neg cc] at h
      refine w_iload_n mi_a67_161 rfl ?_
      refine w_sipushv (v := 1005) mi_a67_162 (by decide) ?_
      refine w_icmp_ne mi_a67_165 176 (by decide) (fun cc => ?_) (fun cc => ?_)
      rotate_left
      · rw [if_pos cc] at h
        refine w_iload mi_a67_168 rfl ?_
        refine w_iload mi_a67_170 rfl ?_
        refine w_imul mi_a67_172 ?_
        refine w_goto mi_a67_173 196 (by decide) ?_
        exact fin _ _ h
      rw [if_neg cc] at h
      refine w_iload_n mi_a67_176 rfl ?_
      refine w_sipushv (v := 1006) mi_a67_177 (by decide) ?_
      refine w_icmp_ne mi_a67_180 191 (by decide) (fun cc => ?_) (fun cc => ?_)
      rotate_left
      · rw [if_pos cc] at h
        refine w_iload mi_a67_183 rfl ?_
        refine w_iload mi_a67_185 rfl ?_
        refine w_ixor mi_a67_187 ?_
        refine w_goto mi_a67_188 196 (by decide) ?_
        exact fin _ _ h
      rw [if_neg cc] at h
      refine w_iload mi_a67_191 rfl ?_
      refine w_iload mi_a67_193 rfl ?_
      refine w_iand mi_a67_195 ?_
      exact fin _ _ h
    by_cases h9 : o.toInt ≤ 1009
    · have h3 : o = 1003 ∨ o = 1004 ∨ o = 1005 ∨ o = 1006 ∨ o = 1007 := by
        have g0 : (1000 : Int32).toInt ≤ o.toInt := Int32.le_iff_toInt_le.mp cc
        have g1 : ∀ k : Int32, ¬ o = k → o.toInt ≠ k.toInt := fun k z q => z (Int32.toInt_inj.mp q)
        have ne : ∀ k : Int32, o.toInt = k.toInt → o = k := fun k z => Int32.toInt_inj.mp z
        have a0 := g1 _ n0
        have a1 := g1 _ n1
        have a2 := g1 _ n2
        have a8 := g1 _ n8
        have a9 := g1 _ n9
        have k0 : (1000 : Int32).toInt = 1000 := by decide
        have k1 : (1001 : Int32).toInt = 1001 := by decide
        have k2 : (1002 : Int32).toInt = 1002 := by decide
        have k8 : (1008 : Int32).toInt = 1008 := by decide
        have k9 : (1009 : Int32).toInt = 1009 := by decide
        rw [k0] at g0 a0
        rw [k1] at a1
        rw [k2] at a2
        rw [k8] at a8
        rw [k9] at a9
        have hh : o.toInt = 1003 ∨ o.toInt = 1004 ∨ o.toInt = 1005 ∨ o.toInt = 1006 ∨ o.toInt = 1007 := by omega
        rcases hh with z | z | z | z | z
        · exact Or.inl (ne _ z)
        · exact Or.inr (Or.inl (ne _ z))
        · exact Or.inr (Or.inr (Or.inl (ne _ z)))
        · exact Or.inr (Or.inr (Or.inr (Or.inl (ne _ z))))
        · exact Or.inr (Or.inr (Or.inr (Or.inr (ne _ z))))
      rcases h3 with rfl | rfl | rfl | rfl | rfl
      · refine w_tswIn (off := 104) mi_a67_14 (by decide) (by decide) 118 (by decide) ?_
        exact hbin
      · refine w_tswIn (off := 104) mi_a67_14 (by decide) (by decide) 118 (by decide) ?_
        exact hbin
      · refine w_tswIn (off := 104) mi_a67_14 (by decide) (by decide) 118 (by decide) ?_
        exact hbin
      · refine w_tswIn (off := 104) mi_a67_14 (by decide) (by decide) 118 (by decide) ?_
        exact hbin
      · refine w_tswIn (off := 104) mi_a67_14 (by decide) (by decide) 118 (by decide) ?_
        exact hbin
    · refine w_tswOut mi_a67_14 (Or.inr (by omega)) 118 (by decide) ?_
      exact hbin
  · cases h
end MD
