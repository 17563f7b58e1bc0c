/-! SMALL METHODS: ranges, bits, what a kind bears and may be called for -/
def b01 (b : Bool) : Int32 := if b then 1 else 0
theorem b01_and (b : Bool) : b01 b &&& 1 = b01 b := by cases b <;> decide
theorem b01_eq0 (b : Bool) : b01 b = 0 ↔ b = false := by cases b <;> decide
theorem b01_ne0 (b : Bool) : ¬ b01 b = 0 ↔ b = true := by cases b <;> decide
/-- 0 ≤ x < n -/
def rgb (x n : Int32) : Bool := !decide (x < 0) && decide (x < n)
theorem rgb_t {x n : Int32} : rgb x n = true ↔ ¬ x < 0 ∧ x < n := by simp [rgb]
theorem rgb_f0 {x n : Int32} (h : x < 0) : rgb x n = false := by simp [rgb, h]
theorem rgb_f1 {x n : Int32} (h : n ≤ x) : rgb x n = false := by simp [rgb, Int32.not_lt.mpr h]
theorem rgb_at {x : Int32} {n : Nat} (hn : n < 2 ^ 31) (h : rgb x (nI n) = true) : ∃ i, i < n ∧ x = nI i := by
  obtain ⟨h1, h2⟩ := rgb_t.mp h
  obtain ⟨e, l⟩ := i3_nat h1
  rw [e] at h2
  exact ⟨_, (nI_ltn l hn).mp h2, e⟩
theorem rgb_of {i n : Nat} (hn : n < 2 ^ 31) (h : i < n) : rgb (nI i) (nI n) = true := rgb_t.mpr ⟨nI_pos (by omega), nI_lt h hn⟩
/-- has the set s the number n -/
def cont (s n : Int32) : Bool := !decide (s &&& ((1 : Int32) <<< (n &&& 31)) = 0)
theorem s_cKind {d : Nat} {h : mi_H} {x : Int32} : mi_WC (d + 1) 21 [.int x] h (fun r h' => r = some (.int (b01 (rgb x 11))) ∧ h' = h) := by
  refine mi_WC.of (X := mi_m21) rfl (Nat.le_of_ble_eq_true rfl) ?_
  refine w_iload_n mi_a21_0 rfl ?_
  refine w_if_lt mi_a21_1 14 (by decide) (fun c1 => ?_) (fun c1 => ?_)
  · refine w_iconstv (v := 0) mi_a21_14 (by decide) ?_
    exact w_zreturn mi_a21_15 rfl (by decide) ⟨by rw [rgb_f0 c1]; rfl, rfl⟩
  · refine w_iload_n mi_a21_4 rfl ?_
    refine w_bipushv (v := 11) mi_a21_5 (by decide) ?_
    refine w_icmp_ge mi_a21_7 14 (by decide) (fun c7 => ?_) (fun c7 => ?_)
    · refine w_iconstv (v := 0) mi_a21_14 (by decide) ?_
      exact w_zreturn mi_a21_15 rfl (by decide) ⟨by rw [rgb_f1 c7]; rfl, rfl⟩
    · refine w_iconstv (v := 1) mi_a21_10 (by decide) ?_
      refine w_goto mi_a21_11 15 (by decide) ?_
      exact w_zreturn mi_a21_15 rfl (by decide) ⟨by rw [rgb_t.mpr ⟨c1, Int32.not_le.mp c7⟩]; rfl, rfl⟩
theorem s_cAct {d : Nat} {h : mi_H} {x : Int32} : mi_WC (d + 1) 22 [.int x] h (fun r h' => r = some (.int (b01 (rgb x 12))) ∧ h' = h) := by
  refine mi_WC.of (X := mi_m22) rfl (Nat.le_of_ble_eq_true rfl) ?_
  refine w_iload_n mi_a22_0 rfl ?_
  refine w_if_lt mi_a22_1 14 (by decide) (fun c1 => ?_) (fun c1 => ?_)
  · refine w_iconstv (v := 0) mi_a22_14 (by decide) ?_
    exact w_zreturn mi_a22_15 rfl (by decide) ⟨by rw [rgb_f0 c1]; rfl, rfl⟩
  · refine w_iload_n mi_a22_4 rfl ?_
    refine w_bipushv (v := 12) mi_a22_5 (by decide) ?_
    refine w_icmp_ge mi_a22_7 14 (by decide) (fun c7 => ?_) (fun c7 => ?_)
    · refine w_iconstv (v := 0) mi_a22_14 (by decide) ?_
      exact w_zreturn mi_a22_15 rfl (by decide) ⟨by rw [rgb_f1 c7]; rfl, rfl⟩
    · refine w_iconstv (v := 1) mi_a22_10 (by decide) ?_
      refine w_goto mi_a22_11 15 (by decide) ?_
      exact w_zreturn mi_a22_15 rfl (by decide) ⟨by rw [rgb_t.mpr ⟨c1, Int32.not_le.mp c7⟩]; rfl, rfl⟩
theorem s_cWay {d : Nat} {h : mi_H} {x : Int32} : mi_WC (d + 1) 23 [.int x] h (fun r h' => r = some (.int (b01 (rgb x 7))) ∧ h' = h) := by
  refine mi_WC.of (X := mi_m23) rfl (Nat.le_of_ble_eq_true rfl) ?_
  refine w_iload_n mi_a23_0 rfl ?_
  refine w_if_lt mi_a23_1 14 (by decide) (fun c1 => ?_) (fun c1 => ?_)
  · refine w_iconstv (v := 0) mi_a23_14 (by decide) ?_
    exact w_zreturn mi_a23_15 rfl (by decide) ⟨by rw [rgb_f0 c1]; rfl, rfl⟩
  · refine w_iload_n mi_a23_4 rfl ?_
    refine w_bipushv (v := 7) mi_a23_5 (by decide) ?_
    refine w_icmp_ge mi_a23_7 14 (by decide) (fun c7 => ?_) (fun c7 => ?_)
    · refine w_iconstv (v := 0) mi_a23_14 (by decide) ?_
      exact w_zreturn mi_a23_15 rfl (by decide) ⟨by rw [rgb_f1 c7]; rfl, rfl⟩
    · refine w_iconstv (v := 1) mi_a23_10 (by decide) ?_
      refine w_goto mi_a23_11 15 (by decide) ?_
      exact w_zreturn mi_a23_15 rfl (by decide) ⟨by rw [rgb_t.mpr ⟨c1, Int32.not_le.mp c7⟩]; rfl, rfl⟩
theorem s_mAct {d : Nat} {h : mi_H} {x : Int32} : mi_WC (d + 1) 69 [.int x] h (fun r h' => r = some (.int (b01 (rgb x 12))) ∧ h' = h) := by
  refine mi_WC.of (X := mi_m69) rfl (Nat.le_of_ble_eq_true rfl) ?_
  refine w_iload_n mi_a69_0 rfl ?_
  refine w_if_lt mi_a69_1 14 (by decide) (fun c1 => ?_) (fun c1 => ?_)
  · refine w_iconstv (v := 0) mi_a69_14 (by decide) ?_
    exact w_zreturn mi_a69_15 rfl (by decide) ⟨by rw [rgb_f0 c1]; rfl, rfl⟩
  · refine w_iload_n mi_a69_4 rfl ?_
    refine w_bipushv (v := 12) mi_a69_5 (by decide) ?_
    refine w_icmp_ge mi_a69_7 14 (by decide) (fun c7 => ?_) (fun c7 => ?_)
    · refine w_iconstv (v := 0) mi_a69_14 (by decide) ?_
      exact w_zreturn mi_a69_15 rfl (by decide) ⟨by rw [rgb_f1 c7]; rfl, rfl⟩
    · refine w_iconstv (v := 1) mi_a69_10 (by decide) ?_
      refine w_goto mi_a69_11 15 (by decide) ?_
      exact w_zreturn mi_a69_15 rfl (by decide) ⟨by rw [rgb_t.mpr ⟨c1, Int32.not_le.mp c7⟩]; rfl, rfl⟩
theorem s_mWay {d : Nat} {h : mi_H} {x : Int32} : mi_WC (d + 1) 70 [.int x] h (fun r h' => r = some (.int (b01 (rgb x 7))) ∧ h' = h) := by
  refine mi_WC.of (X := mi_m70) rfl (Nat.le_of_ble_eq_true rfl) ?_
  refine w_iload_n mi_a70_0 rfl ?_
  refine w_if_lt mi_a70_1 14 (by decide) (fun c1 => ?_) (fun c1 => ?_)
  · refine w_iconstv (v := 0) mi_a70_14 (by decide) ?_
    exact w_zreturn mi_a70_15 rfl (by decide) ⟨by rw [rgb_f0 c1]; rfl, rfl⟩
  · refine w_iload_n mi_a70_4 rfl ?_
    refine w_bipushv (v := 7) mi_a70_5 (by decide) ?_
    refine w_icmp_ge mi_a70_7 14 (by decide) (fun c7 => ?_) (fun c7 => ?_)
    · refine w_iconstv (v := 0) mi_a70_14 (by decide) ?_
      exact w_zreturn mi_a70_15 rfl (by decide) ⟨by rw [rgb_f1 c7]; rfl, rfl⟩
    · refine w_iconstv (v := 1) mi_a70_10 (by decide) ?_
      refine w_goto mi_a70_11 15 (by decide) ?_
      exact w_zreturn mi_a70_15 rfl (by decide) ⟨by rw [rgb_t.mpr ⟨c1, Int32.not_le.mp c7⟩]; rfl, rfl⟩
theorem s_contains {d : Nat} {h : mi_H} {s n : Int32} : mi_WC (d + 1) 25 [.int s, .int n] h (fun r h' => r = some (.int (b01 (cont s n))) ∧ h' = h) := by
  refine mi_WC.of (X := mi_m25) rfl (Nat.le_of_ble_eq_true rfl) ?_
  refine w_iload_n mi_a25_0 rfl ?_
  refine w_iconstv (v := 1) mi_a25_1 (by decide) ?_
  refine w_iload_n mi_a25_2 rfl ?_
  refine w_ishl mi_a25_3 ?_
  refine w_iand mi_a25_4 ?_
  refine w_if_eq mi_a25_5 12 (by decide) (fun c => ?_) (fun c => ?_)
  · refine w_iconstv (v := 0) mi_a25_12 (by decide) ?_
    exact w_zreturn mi_a25_13 rfl (by decide) ⟨by simp [b01, cont, c], rfl⟩
  · refine w_iconstv (v := 1) mi_a25_8 (by decide) ?_
    refine w_goto mi_a25_9 13 (by decide) ?_
    exact w_zreturn mi_a25_13 rfl (by decide) ⟨by simp [b01, cont, c], rfl⟩
theorem s_bit {d : Nat} {h : mi_H} {k : Int32} : mi_WC (d + 1) 57 [.int k] h (fun r h' => r = some (.int ((1 : Int32) <<< (k &&& 31))) ∧ h' = h) := by
  refine mi_WC.of (X := mi_m57) rfl (Nat.le_of_ble_eq_true rfl) ?_
  refine w_iconstv (v := 1) mi_a57_0 (by decide) ?_
  refine w_iload_n mi_a57_1 rfl ?_
  refine w_ishl mi_a57_2 ?_
  exact w_ireturn mi_a57_3 rfl ⟨rfl, rfl⟩
theorem s_actsOfWay {d : Nat} {h : mi_H} {w x : Int32} (hw : rgb w 7 = true) (hx : mi_aw[w.toNatClampNeg]? = some x) : mi_WC (d + 2) 28 [.int w] h (fun r h' => r = some (.int x) ∧ h' = h) := by
  refine mi_WC.of (X := mi_m28) rfl (Nat.le_of_ble_eq_true rfl) ?_
  refine w_iload_n mi_a28_0 rfl ?_
  refine w_callS mi_a28_1 rfl rfl 1 ⟨rfl, rfl⟩ ⟨Nat.le_of_ble_eq_true rfl, Nat.le_of_ble_eq_true rfl⟩ (s_cWay) ?_
  rintro r' h' ⟨rfl, rfl⟩
  refine w_if_eq mi_a28_4 15 (by decide) (fun c => absurd c (by rw [hw]; decide)) (fun _ => ?_)
  refine w_gets mi_a28_7 rfl ?_
  refine w_iload_n mi_a28_10 rfl ?_
  refine w_ialdC mi_a28_11 (j := 3) rfl (rgb_t.mp hw).1 hx ?_
  refine w_goto mi_a28_12 16 (by decide) ?_
  exact w_ireturn mi_a28_16 rfl ⟨rfl, rfl⟩
/-- what a kind bears; which acts it may be called for by a way -/
def abl (k : Nat) (w : Int32) : Bool := cont (mi_wy.getD k 0) w
def aset (k : Nat) (w : Int32) : Int32 := if w = 0 then mi_ak.getD k 0 else mi_aw.getD w.toNatClampNeg 0
def isof (k : Nat) (a w : Int32) : Bool := cont (aset k w) a
theorem i3_small {n : Nat} {x : Int32} (hn : n < 2 ^ 31) (h : rgb x (nI n) = true) {p : Nat → Bool} (hp : (List.range n).all p = true) : p x.toNatClampNeg = true := by
  obtain ⟨i, hi, rfl⟩ := rgb_at hn h
  rw [nI_clamp (by omega)]
  exact List.all_eq_true.mp hp i (List.mem_range.mpr hi)
theorem abl_tab : ((List.range 11).all fun k => (List.range 7).all fun w => decide (abl k (nI w) = (decide (nI w ≤ 1) || !decide (mi_bea.getD (10 + k) 0 &&& ((1 : Int32) <<< ((nI w - 1) &&& 31)) = 0)))) = true := by decide +kernel
theorem abl_m {k : Nat} {w : Int32} (hk : k < 11) (hw : rgb w 7 = true) : abl k w = (decide (w ≤ 1) || !decide (mi_bea.getD (10 + k) 0 &&& ((1 : Int32) <<< ((w - 1) &&& 31)) = 0)) := by
  obtain ⟨i, hi, rfl⟩ := rgb_at (n := 7) (by decide) hw
  have h := List.all_eq_true.mp (List.all_eq_true.mp abl_tab k (List.mem_range.mpr hk)) i (List.mem_range.mpr hi)
  simpa using h
theorem li_at {xs : List Int32} {n k : Nat} (hn : xs.length = n) (hk : k < n) : xs[k]? = some (xs.getD k 0) := by
  rw [List.getD_eq_getElem?_getD, List.getElem?_eq_getElem (by omega)]
  rfl
section MS
variable {n m stt fr pl : Int32} {q : List Int32 × Nat} {kO vO cO tO fm to rw an zi fB fA fX pi : List Int32}
theorem s_mDev {d : Nat} {x : Int32} : mi_WC (d + 1) 68 [.ref 0, .int x] (mh n m stt fr pl q kO vO cO tO fm to rw an zi fB fA fX pi) (fun r h' => r = some (.int (b01 (rgb x n))) ∧ h' = mh n m stt fr pl q kO vO cO tO fm to rw an zi fB fA fX pi) := by
  refine mi_WC.of (X := mi_m68) rfl (Nat.le_of_ble_eq_true rfl) ?_
  refine w_iload_n mi_a68_0 rfl ?_
  refine w_if_lt mi_a68_1 16 (by decide) (fun c1 => ?_) (fun c1 => ?_)
  · refine w_iconstv (v := 0) mi_a68_16 (by decide) ?_
    exact w_zreturn mi_a68_17 rfl (by decide) ⟨by rw [rgb_f0 c1]; rfl, rfl⟩
  refine w_iload_n mi_a68_4 rfl ?_
  refine w_aload_n mi_a68_5 rfl ?_
  refine w_get mi_a68_6 rfl rfl rfl ?_
  refine w_icmp_ge mi_a68_9 16 (by decide) (fun c9 => ?_) (fun c9 => ?_)
  · refine w_iconstv (v := 0) mi_a68_16 (by decide) ?_
    exact w_zreturn mi_a68_17 rfl (by decide) ⟨by rw [rgb_f1 c9]; rfl, rfl⟩
  refine w_iconstv (v := 1) mi_a68_12 (by decide) ?_
  refine w_goto mi_a68_13 17 (by decide) ?_
  exact w_zreturn mi_a68_17 rfl (by decide) ⟨by rw [rgb_t.mpr ⟨c1, Int32.not_le.mp c9⟩]; rfl, rfl⟩
theorem s_mAble {d i k : Nat} {w : Int32} (hi : i < 2 ^ 31) (hk : k < 11) (hkO : kO[i]? = some (nI k)) (hw : rgb w 7 = true) : mi_WC (d + 2) 71 [.ref 0, .int (nI i), .int w] (mh n m stt fr pl q kO vO cO tO fm to rw an zi fB fA fX pi) (fun r h' => r = some (.int (b01 (abl k w))) ∧ h' = mh n m stt fr pl q kO vO cO tO fm to rw an zi fB fA fX pi) := by
  rw [abl_m hk hw]
  refine mi_WC.of (X := mi_m71) rfl (Nat.le_of_ble_eq_true rfl) ?_
  refine w_iload_n mi_a71_0 rfl ?_
  refine w_iconstv (v := 1) mi_a71_1 (by decide) ?_
  refine w_icmp_le mi_a71_2 29 (by decide) (fun c2 => ?_) (fun c2 => ?_)
  · refine w_iconstv (v := 1) mi_a71_29 (by decide) ?_
    refine w_goto mi_a71_30 34 (by decide) ?_
    exact w_zreturn mi_a71_34 rfl (by decide) ⟨by simp [b01, c2], rfl⟩
  refine w_aload_n mi_a71_5 rfl ?_
  refine w_get mi_a71_6 rfl rfl rfl ?_
  refine w_bipushv (v := 10) mi_a71_9 (by decide) ?_
  refine w_aload_n mi_a71_11 rfl ?_
  refine w_get mi_a71_12 rfl rfl rfl ?_
  refine w_iload_n mi_a71_15 rfl ?_
  refine w_iald mi_a71_16 rfl (nI_pos hi) (by rw [nI_clamp hi]; exact hkO) ?_
  refine w_iaddv (v := nI (10 + k)) mi_a71_17 (by rw [show (10 : Int32) = nI 10 from rfl]; simp [nI, Int32.ofNat_add]) ?_
  refine w_iald mi_a71_18 rfl (nI_pos (by omega)) (by rw [nI_clamp (by omega)]; exact li_at (n := 21) (by decide +kernel) (by omega)) ?_
  refine w_iload_n mi_a71_19 rfl ?_
  refine w_iconstv (v := 1) mi_a71_20 (by decide) ?_
  refine w_isub mi_a71_21 ?_
  refine w_callS mi_a71_22 rfl rfl 1 ⟨rfl, rfl⟩ ⟨Nat.le_of_ble_eq_true rfl, Nat.le_of_ble_eq_true rfl⟩ (s_bit) ?_
  rintro r' h' ⟨rfl, rfl⟩
  refine w_iand mi_a71_25 ?_
  refine w_if_eq mi_a71_26 33 (by decide) (fun c26 => ?_) (fun c26 => ?_)
  · refine w_iconstv (v := 0) mi_a71_33 (by decide) ?_
    exact w_zreturn mi_a71_34 rfl (by decide) ⟨by simp only [b01, c2, c26]; rfl, rfl⟩
  refine w_iconstv (v := 1) mi_a71_29 (by decide) ?_
  refine w_goto mi_a71_30 34 (by decide) ?_
  exact w_zreturn mi_a71_34 rfl (by decide) ⟨by simp only [b01, c2, c26]; rfl, rfl⟩
theorem s_mOf {d i k : Nat} {a w : Int32} (hi : i < 2 ^ 31) (hk : k < 11) (hkO : kO[i]? = some (nI k)) (hw : rgb w 7 = true) : mi_WC (d + 2) 72 [.ref 0, .int a, .int w, .int (nI i)] (mh n m stt fr pl q kO vO cO tO fm to rw an zi fB fA fX pi) (fun r h' => r = some (.int (b01 (isof k a w))) ∧ h' = mh n m stt fr pl q kO vO cO tO fm to rw an zi fB fA fX pi) := by
  refine mi_WC.of (X := mi_m72) rfl (Nat.le_of_ble_eq_true rfl) ?_
  have fin : ∀ L : List (Option Value), L[1]? = some (some (.int a)) → mi_W (d + 1) mi_m72 (24, L, [.int (aset k w)], mh n m stt fr pl q kO vO cO tO fm to rw an zi fB fA fX pi) (fun r h' => r = some (.int (b01 (isof k a w))) ∧ h' = mh n m stt fr pl q kO vO cO tO fm to rw an zi fB fA fX pi) := by
    intro L hL
    refine w_iload_n mi_a72_24 hL ?_
    refine w_callS mi_a72_25 rfl rfl 1 ⟨rfl, rfl⟩ ⟨Nat.le_of_ble_eq_true rfl, Nat.le_of_ble_eq_true rfl⟩ (s_bit) ?_
    rintro r' h' ⟨rfl, rfl⟩
    refine w_iand mi_a72_28 ?_
    refine w_if_eq mi_a72_29 36 (by decide) (fun c => ?_) (fun c => ?_)
    · refine w_iconstv (v := 0) mi_a72_36 (by decide) ?_
      exact w_zreturn mi_a72_37 rfl (by decide) ⟨by simp [b01, isof, cont, c], rfl⟩
    refine w_iconstv (v := 1) mi_a72_32 (by decide) ?_
    refine w_goto mi_a72_33 37 (by decide) ?_
    exact w_zreturn mi_a72_37 rfl (by decide) ⟨by simp [b01, isof, cont, c], rfl⟩
  refine w_iload_n mi_a72_0 rfl ?_
  refine w_if_ne mi_a72_1 18 (by decide) (fun c1 => ?_) (fun c1 => ?_)
  · obtain ⟨j, hj, rfl⟩ := rgb_at (n := 7) (by decide) hw
    refine w_aload_n mi_a72_18 rfl ?_
    refine w_get mi_a72_19 rfl rfl rfl ?_
    refine w_iload_n mi_a72_22 rfl ?_
    refine w_iald mi_a72_23 rfl (nI_pos (by omega)) (by rw [nI_clamp (by omega)]; exact li_at (n := 7) (by decide +kernel) hj) ?_
    have e : aset k (nI j) = mi_aw.getD j 0 := by unfold aset; rw [if_neg c1, nI_clamp (by omega)]
    rw [← e]
    exact fin _ rfl
  refine w_aload_n mi_a72_4 rfl ?_
  refine w_get mi_a72_5 rfl rfl rfl ?_
  refine w_aload_n mi_a72_8 rfl ?_
  refine w_get mi_a72_9 rfl rfl rfl ?_
  refine w_iload_n mi_a72_12 rfl ?_
  refine w_iald mi_a72_13 rfl (nI_pos hi) (by rw [nI_clamp hi]; exact hkO) ?_
  refine w_iald mi_a72_14 rfl (nI_pos (by omega)) (by rw [nI_clamp (by omega)]; exact li_at (n := 11) (by decide +kernel) hk) ?_
  refine w_goto mi_a72_15 24 (by decide) ?_
  have e : aset k w = mi_ak.getD k 0 := by unfold aset; rw [if_pos c1]
  rw [← e]
  exact fin _ rfl
/-- why a call would not be done -/
def wyk (k : Nat) (a w : Int32) : Int32 := if abl k w then (if isof k a w then 0 else 3) else 2
def wyf (n : Int32) (kO : List Int32) (d a w : Int32) : Int32 := if rgb d n && (rgb a 12 && rgb w 7) then wyk (kO.getD d.toNatClampNeg 0).toNatClampNeg a w else 1
theorem s_why {d N : Nat} {x a w : Int32} (hN : N ≤ 300) (hkO : ∀ i, i < N → ∃ k, k < 11 ∧ kO[i]? = some (nI k)) (hn : n = nI N) : mi_WC (d + 3) 74 [.ref 0, .int x, .int a, .int w] (mh n m stt fr pl q kO vO cO tO fm to rw an zi fB fA fX pi) (fun r h' => r = some (.int (wyf n kO x a w)) ∧ h' = mh n m stt fr pl q kO vO cO tO fm to rw an zi fB fA fX pi) := by
  have one : ∀ L : List (Option Value), (rgb x n && (rgb a 12 && rgb w 7)) = false → mi_W (d + 2) mi_m74 (22, L, [], mh n m stt fr pl q kO vO cO tO fm to rw an zi fB fA fX pi) (fun r h' => r = some (.int (wyf n kO x a w)) ∧ h' = mh n m stt fr pl q kO vO cO tO fm to rw an zi fB fA fX pi) := by
    intro L hf
    refine w_iconstv (v := 1) mi_a74_22 (by decide) ?_
    exact w_ireturn mi_a74_23 rfl ⟨by simp [wyf, hf], rfl⟩
  refine mi_WC.of (X := mi_m74) rfl (Nat.le_of_ble_eq_true rfl) ?_
  refine w_aload_n mi_a74_0 rfl ?_
  refine w_iload_n mi_a74_1 rfl ?_
  refine w_callV mi_a74_2 rfl rfl 1 ⟨rfl, rfl⟩ ⟨Nat.le_of_ble_eq_true rfl, Nat.le_of_ble_eq_true rfl⟩ rfl rfl rfl rfl (s_mDev) ?_
  rintro r' h' ⟨rfl, rfl⟩
  refine w_if_eq mi_a74_5 22 (by decide) (fun c => one _ (by rw [(b01_eq0 _).mp c]; rfl)) (fun c5 => ?_)
  refine w_iload_n mi_a74_8 rfl ?_
  refine w_callS mi_a74_9 rfl rfl 1 ⟨rfl, rfl⟩ ⟨Nat.le_of_ble_eq_true rfl, Nat.le_of_ble_eq_true rfl⟩ (s_mAct) ?_
  rintro r' h' ⟨rfl, rfl⟩
  refine w_if_eq mi_a74_12 22 (by decide) (fun c => one _ (by rw [(b01_eq0 _).mp c, Bool.false_and, Bool.and_false])) (fun c12 => ?_)
  refine w_iload_n mi_a74_15 rfl ?_
  refine w_callS mi_a74_16 rfl rfl 1 ⟨rfl, rfl⟩ ⟨Nat.le_of_ble_eq_true rfl, Nat.le_of_ble_eq_true rfl⟩ (s_mWay) ?_
  rintro r' h' ⟨rfl, rfl⟩
  refine w_if_ne mi_a74_19 24 (by decide) (fun c19 => ?_) (fun c => one _ (by rw [(b01_eq0 _).mp c, Bool.and_false, Bool.and_false]))
  have hx := (b01_ne0 _).mp c5
  have ha := (b01_ne0 _).mp c12
  have hw := (b01_ne0 _).mp c19
  rw [hn] at hx
  obtain ⟨i, hi, rfl⟩ := rgb_at (by omega) hx
  obtain ⟨k, hk, hki⟩ := hkO i hi
  have hf : wyf n kO (nI i) a w = wyk k a w := by
    unfold wyf
    rw [hn, hx, ha, hw, nI_clamp (by omega), List.getD_eq_getElem?_getD, hki]
    show wyk (nI k).toNatClampNeg a w = _
    rw [nI_clamp (by omega)]
  rw [hf]
  refine w_aload_n mi_a74_24 rfl ?_
  refine w_iload_n mi_a74_25 rfl ?_
  refine w_iload_n mi_a74_26 rfl ?_
  refine w_callV mi_a74_27 rfl rfl 2 ⟨rfl, rfl⟩ ⟨Nat.le_of_ble_eq_true rfl, Nat.le_of_ble_eq_true rfl⟩ rfl rfl rfl rfl (s_mAble (d := d) (by omega) hk hki hw) ?_
  rintro r' h' ⟨rfl, rfl⟩
  refine w_if_ne mi_a74_30 35 (by decide) (fun c30 => ?_) (fun c30 => ?_)
  rotate_left
  · refine w_iconstv (v := 2) mi_a74_33 (by decide) ?_
    exact w_ireturn mi_a74_34 rfl ⟨by simp [wyk, (b01_eq0 _).mp c30], rfl⟩
  refine w_aload_n mi_a74_35 rfl ?_
  refine w_iload_n mi_a74_36 rfl ?_
  refine w_iload_n mi_a74_37 rfl ?_
  refine w_iload_n mi_a74_38 rfl ?_
  refine w_callV mi_a74_39 rfl rfl 3 ⟨rfl, rfl⟩ ⟨Nat.le_of_ble_eq_true rfl, Nat.le_of_ble_eq_true rfl⟩ rfl rfl rfl rfl (s_mOf (d := d) (by omega) hk hki hw) ?_
  rintro r' h' ⟨rfl, rfl⟩
  refine w_if_eq mi_a74_42 49 (by decide) (fun c42 => ?_) (fun c42 => ?_)
  · refine w_iconstv (v := 3) mi_a74_49 (by decide) ?_
    exact w_ireturn mi_a74_50 rfl ⟨by simp [wyk, (b01_ne0 _).mp c30, (b01_eq0 _).mp c42], rfl⟩
  refine w_iconstv (v := 0) mi_a74_45 (by decide) ?_
  refine w_goto mi_a74_46 50 (by decide) ?_
  exact w_ireturn mi_a74_50 rfl ⟨by simp [wyk, (b01_ne0 _).mp c30, (b01_ne0 _).mp c42], rfl⟩
theorem s_refused {d : Nat} {y : Int32} : mi_WC (d + 1) 73 [.ref 0, .int y] (mh n m stt fr pl q kO vO cO tO fm to rw an zi fB fA fX pi) (fun r h' => r = some (.int 0) ∧ h' = mh n m y fr pl q kO vO cO tO fm to rw an zi fB fA fX pi) := by
  refine mi_WC.of (X := mi_m73) rfl (Nat.le_of_ble_eq_true rfl) ?_
  refine w_aload_n mi_a73_0 rfl ?_
  refine w_iload_n mi_a73_1 rfl ?_
  refine w_put mi_a73_2 rfl rfl (Nat.le_of_ble_eq_true rfl) rfl ?_
  refine w_iconstv (v := 0) mi_a73_5 (by decide) ?_
  exact w_ireturn mi_a73_6 rfl ⟨rfl, rfl⟩
theorem s_mBegin {d : Nat} : mi_WC (d + 1) 75 [.ref 0] (mh n m stt fr pl q kO vO cO tO fm to rw an zi fB fA fX pi) (fun r h' => r = none ∧ h' = mh n m 0 fr pl (q.1, 0) kO vO cO tO fm to rw an zi fB fA fX pi) := by
  refine mi_WC.of (X := mi_m75) rfl (Nat.le_of_ble_eq_true rfl) ?_
  refine w_aload_n mi_a75_0 rfl ?_
  refine w_iconstv (v := 0) mi_a75_1 (by decide) ?_
  refine w_put mi_a75_2 rfl rfl (Nat.le_of_ble_eq_true rfl) rfl ?_
  refine w_aload_n mi_a75_5 rfl ?_
  refine w_iconstv (v := 0) mi_a75_6 (by decide) ?_
  refine w_put mi_a75_7 rfl rfl (Nat.le_of_ble_eq_true rfl) rfl ?_
  exact w_vreturn mi_a75_10 rfl ⟨rfl, rfl⟩
end MS
