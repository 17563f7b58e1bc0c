/-! THE CLASS'S ACTS: run() and what it calls do what the tokens say -/
theorem mi_set_at {h : mi_H} {a : Nat} {c c0 : mi_C} (e : h[a]? = some c0) : (h.set a c)[a]? = some c := List.getElem?_set_self (List.getElem?_eq_some_iff.mp e).1
section WV
variable {d : Nat} {X : mi_M} {pc : Nat} {L : List (Option Value)} {st : List Value} {h : mi_H} {Q : Option Value → mi_H → Prop} {x y v : Int32}
theorem w_iaddv (hl : mi_look X.1 pc = some (.iadd, 1)) (hv : x + y = v) (k : mi_W d X (pc + 1, L, .int v :: st, h) Q) : mi_W d X (pc, L, .int y :: .int x :: st, h) Q := by
  subst hv
  exact w_iadd hl k
theorem w_isubv (hl : mi_look X.1 pc = some (.isub, 1)) (hv : x - y = v) (k : mi_W d X (pc + 1, L, .int v :: st, h) Q) : mi_W d X (pc, L, .int y :: .int x :: st, h) Q := by
  subst hv
  exact w_isub hl k
theorem w_imulv (hl : mi_look X.1 pc = some (.imul, 1)) (hv : x * y = v) (k : mi_W d X (pc + 1, L, .int v :: st, h) Q) : mi_W d X (pc, L, .int y :: .int x :: st, h) Q := by
  subst hv
  exact w_imul hl k
theorem w_iandv (hl : mi_look X.1 pc = some (.iand, 1)) (hv : x &&& y = v) (k : mi_W d X (pc + 1, L, .int v :: st, h) Q) : mi_W d X (pc, L, .int y :: .int x :: st, h) Q := by
  subst hv
  exact w_iand hl k
theorem w_iorv (hl : mi_look X.1 pc = some (.ior, 1)) (hv : x ||| y = v) (k : mi_W d X (pc + 1, L, .int v :: st, h) Q) : mi_W d X (pc, L, .int y :: .int x :: st, h) Q := by
  subst hv
  exact w_ior hl k
theorem w_ixorv (hl : mi_look X.1 pc = some (.ixor, 1)) (hv : x ^^^ y = v) (k : mi_W d X (pc + 1, L, .int v :: st, h) Q) : mi_W d X (pc, L, .int y :: .int x :: st, h) Q := by
  subst hv
  exact w_ixor hl k
theorem w_ishlv (hl : mi_look X.1 pc = some (.ishl, 1)) (hv : x <<< (y &&& 31) = v) (k : mi_W d X (pc + 1, L, .int v :: st, h) Q) : mi_W d X (pc, L, .int y :: .int x :: st, h) Q := by
  subst hv
  exact w_ishl hl k
theorem w_ishrv (hl : mi_look X.1 pc = some (.ishr, 1)) (hv : x >>> (y &&& 31) = v) (k : mi_W d X (pc + 1, L, .int v :: st, h) Q) : mi_W d X (pc, L, .int y :: .int x :: st, h) Q := by
  subst hv
  exact w_ishr hl k
theorem w_iushrv (hl : mi_look X.1 pc = some (.iushr, 1)) (hv : (x.toUInt32 >>> (y.toUInt32 &&& Int32.toUInt32 31)).toInt32 = v) (k : mi_W d X (pc + 1, L, .int v :: st, h) Q) : mi_W d X (pc, L, .int y :: .int x :: st, h) Q := by
  subst hv
  exact w_iushr hl k
theorem w_iincv {i : Nat} {c : Int} (hl : mi_look X.1 pc = some (.iinc i c, 3)) (hv : L[i]? = some (some (.int x))) (he : x + Int32.ofInt c = v) (k : mi_W d X (pc + 3, L.set i (some (.int v)), st, h) Q) : mi_W d X (pc, L, st, h) Q := by
  subst he
  exact w_iinc hl hv k
end WV
def dc (k : Int32) (w1 w2 : Value) (v c : Int32) (rs : List Value) : mi_C := .inl (1, .int k :: w1 :: w2 :: .int v :: .int c :: rs)
/-- the class's cells: the house, its Bodies, kept, selections, devices, took; then Devices and Links as they came -/
def kh (n m tc pu stt : Int32) (q : List Int32 × Nat) (dv tk : List (Option Nat)) (dyn : mi_H) : mi_H :=
  .inl (3, [.ref 1, .ref 4, .ref 5, .int n, .int m, .int tc, .int pu, .int stt]) :: .inl (0, [.ref 2, .ref 3, .int (nI q.2)]) :: .inr (0, .inl q.1) :: .inr (0, .inl mi_sel) :: .inr (2, .inr dv) :: .inr (2, .inr tk) :: dyn
def pr_tab : List Int32 := [11, 11, 11, 0, 1, 2, 11, 2, 3, 1, 4, 12, (-1), (-1), (-1), (-1), (-1), (-1)]

theorem s_isType {d : Nat} {h : mi_H} {t : Int32} (h1 : ¬ t < 0) (h2 : t < 18) : mi_WC (d + 1) 24 [.int t] h (fun r h' => r = some (.int 1) ∧ h' = h) := by
  refine mi_WC.of (X := mi_m24) rfl (Nat.le_of_ble_eq_true rfl) ?_
  refine w_iload_n mi_a24_0 rfl ?_
  refine w_if_lt mi_a24_1 14 (by decide) (fun c => absurd c h1) (fun _ => ?_)
  refine w_iload_n mi_a24_4 rfl ?_
  refine w_bipushv (v := 18) mi_a24_5 (by decide) ?_
  refine w_icmp_ge mi_a24_7 14 (by decide) (fun c => absurd h2 (by simpa using c)) (fun _ => ?_)
  refine w_iconstv (v := 1) mi_a24_10 (by decide) ?_
  refine w_goto mi_a24_11 15 (by decide) ?_
  exact w_zreturn mi_a24_15 rfl (by decide) ⟨rfl, rfl⟩
theorem s_parentOf {d : Nat} {h : mi_H} {t p : Int32} (h1 : ¬ t < 0) (h2 : t < 18) (hp : pr_tab[t.toNatClampNeg]? = some p) : mi_WC (d + 2) 26 [.int t] h (fun r h' => r = some (.int p) ∧ h' = h) := by
  refine mi_WC.of (X := mi_m26) rfl (Nat.le_of_ble_eq_true rfl) ?_
  refine w_iload_n mi_a26_0 rfl ?_
  refine w_callS (Q' := fun r h' => r = some (.int 1) ∧ h' = h) mi_a26_1 rfl rfl 1 ⟨rfl, rfl⟩ ⟨Nat.le_of_ble_eq_true rfl, Nat.le_of_ble_eq_true rfl⟩ (s_isType h1 h2) ?_
  rintro r h' ⟨rfl, rfl⟩
  refine w_if_eq mi_a26_4 15 (by decide) (fun c => absurd c (by decide)) (fun _ => ?_)
  refine w_gets mi_a26_7 rfl ?_
  refine w_iload_n mi_a26_10 rfl ?_
  refine w_ialdC mi_a26_11 (j := 1) rfl h1 hp ?_
  refine w_goto mi_a26_12 16 (by decide) ?_
  exact w_ireturn mi_a26_16 rfl ⟨rfl, rfl⟩
theorem s_selected {d : Nat} {n m tc pu stt : Int32} {q : List Int32 × Nat} {dv tk : List (Option Nat)} {dyn : mi_H} {t a s : Int32} (h1 : ¬ t < 0) (h2 : t < 18) (h3 : ¬ a < 0) (h4 : a < 12) (hs : ac_at mi_sel (t * 12 + a) = some s) : mi_WC (d + 1) 3 [.ref 1, .int t, .int a] (kh n m tc pu stt q dv tk dyn) (fun r h' => r = some (.int s) ∧ h' = kh n m tc pu stt q dv tk dyn) := by
  obtain ⟨hs0, hs1⟩ := ac_at_inv hs
  refine mi_WC.of (X := mi_m3) rfl (Nat.le_of_ble_eq_true rfl) ?_
  refine w_iload_n mi_a3_0 rfl ?_
  refine w_if_lt mi_a3_1 20 (by decide) (fun c => absurd c h1) (fun _ => ?_)
  refine w_iload_n mi_a3_4 rfl ?_
  refine w_bipushv (v := 18) mi_a3_5 (by decide) ?_
  refine w_icmp_ge mi_a3_7 20 (by decide) (fun c => absurd h2 (by simpa using c)) (fun _ => ?_)
  refine w_iload_n mi_a3_10 rfl ?_
  refine w_if_lt mi_a3_11 20 (by decide) (fun c => absurd c h3) (fun _ => ?_)
  refine w_iload_n mi_a3_14 rfl ?_
  refine w_bipushv (v := 12) mi_a3_15 (by decide) ?_
  refine w_icmp_lt mi_a3_17 22 (by decide) (fun _ => ?_) (fun c => absurd h4 c)
  refine w_aload_n mi_a3_22 rfl ?_
  refine w_get mi_a3_23 rfl rfl rfl ?_
  refine w_iload_n mi_a3_26 rfl ?_
  refine w_bipushv (v := 12) mi_a3_27 (by decide) ?_
  refine w_imul mi_a3_29 ?_
  refine w_iload_n mi_a3_30 rfl ?_
  refine w_iadd mi_a3_31 ?_
  refine w_iald mi_a3_32 rfl hs0 hs1 ?_
  exact w_ireturn mi_a3_33 rfl ⟨rfl, rfl⟩
theorem s_begin {d : Nat} {n m tc pu stt : Int32} {q : List Int32 × Nat} {dv tk : List (Option Nat)} {dyn : mi_H} {b : Int32} (hq : q.1.length = 64) (hb : q.2 + 1 < 2 ^ 31) : mi_WC (d + 1) 8 [.ref 1, .int b] (kh n m tc pu stt q dv tk dyn) (fun r h' => r = none ∧ h' = kh n m tc pu stt (ac_kp [b] q) dv tk dyn) := by
  have hi : (nI q.2).toNatClampNeg = q.2 := nI_clamp (by omega)
  refine mi_WC.of (X := mi_m8) rfl (Nat.le_of_ble_eq_true rfl) ?_
  refine w_aload_n mi_a8_0 rfl ?_
  refine w_get mi_a8_1 rfl rfl rfl ?_
  refine w_if_lt mi_a8_4 26 (by decide) (fun c => absurd c (nI_pos (by omega))) (fun _ => ?_)
  refine w_aload_n mi_a8_7 rfl ?_
  refine w_get mi_a8_8 rfl rfl rfl ?_
  refine w_bipushv (v := 64) mi_a8_11 (by decide) ?_
  have fin : ∀ q1 : List Int32, q1 = (ac_kp [b] q).1 → mi_W d mi_m8 (26, [some (.ref 1), some (.int b)], [], kh n m tc pu stt (q1, q.2) dv tk dyn) (fun r h' => r = none ∧ h' = kh n m tc pu stt (ac_kp [b] q) dv tk dyn) := by
    intro q1 hq1
    refine w_aload_n mi_a8_26 rfl ?_
    refine w_dup mi_a8_27 rfl ?_
    refine w_get mi_a8_28 rfl rfl rfl ?_
    refine w_iconstv (v := 1) mi_a8_31 (by decide) ?_
    refine w_iaddv mi_a8_32 (nI_succ q.2).symm ?_
    refine w_put mi_a8_33 rfl rfl (Nat.le_of_ble_eq_true rfl) rfl ?_
    exact w_vreturn mi_a8_36 rfl ⟨rfl, by rw [hq1]; rfl⟩
  refine w_icmp_ge mi_a8_13 26 (by decide) (fun c => ?_) (fun c => ?_)
  · refine fin q.1 ?_
    have h64 : ¬ q.2 < 64 := fun z => absurd c (nI_ge (a := q.2) (b := 64) z (by decide))
    simp [ac_kp, h64]
  · have h64 : q.2 < 64 := by
      rcases Nat.lt_or_ge q.2 64 with z | z
      · exact z
      · exact absurd (nI_le z (by omega)) c
    refine w_aload_n mi_a8_16 rfl ?_
    refine w_get mi_a8_17 rfl rfl rfl ?_
    refine w_aload_n mi_a8_20 rfl ?_
    refine w_get mi_a8_21 rfl rfl rfl ?_
    refine w_iload_n mi_a8_24 rfl ?_
    refine w_iast mi_a8_25 rfl (nI_pos (by omega)) (by rw [hi, hq]; exact h64) ?_
    rw [hi]
    exact fin (q.1.set q.2 b) (by simp [ac_kp, h64])
