/-! THE CLASS'S SMALL METHODS over a device's cell; one act on either side -/
/-- a Device's cell -/
def dvc (k : Nat) (v c og ic t p an : Int32) (fl ll : Value) : mi_C := dc (nI k) (.int (mi_wy.getD k 0)) (.int (mi_ak.getD k 0)) v c [.int og, .int ic, .int t, .int p, .int an, fl, ll]
/-- the act of taking -/
def tka (k : Nat) : Nat := if abl k 3 then 4 else if abl k 2 then 1 else 6
section DV
variable {h : mi_H} {ja k : Nat} {v c og ic t p an : Int32} {fl ll : Value}
theorem s_bears {d : Nat} {w : Int32} (hj : h[ja]? = some (dvc k v c og ic t p an fl ll)) : mi_WC (d + 2) 15 [.ref ja, .int w] h (fun r h' => r = some (.int (b01 (abl k w))) ∧ h' = h) := by
  refine mi_WC.of (X := mi_m15) rfl (Nat.le_of_ble_eq_true rfl) ?_
  refine w_aload_n mi_a15_0 rfl ?_
  refine w_get mi_a15_1 rfl hj rfl ?_
  refine w_iload_n mi_a15_4 rfl ?_
  refine w_callS mi_a15_5 rfl rfl 2 ⟨rfl, rfl⟩ ⟨Nat.le_of_ble_eq_true rfl, Nat.le_of_ble_eq_true rfl⟩ (s_contains) ?_
  rintro r' h' ⟨rfl, rfl⟩
  exact w_zreturn mi_a15_8 rfl (b01_and _) ⟨rfl, rfl⟩
theorem s_hasAct {d : Nat} {a w : Int32} (hj : h[ja]? = some (dvc k v c og ic t p an fl ll)) (hw : rgb w 7 = true) : mi_WC (d + 3) 16 [.ref ja, .int a, .int w] h (fun r h' => r = some (.int (b01 (isof k a w))) ∧ h' = h) := by
  refine mi_WC.of (X := mi_m16) rfl (Nat.le_of_ble_eq_true rfl) ?_
  have fin : ∀ L : List (Option Value), L[1]? = some (some (.int a)) → mi_W (d + 2) mi_m16 (15, L, [.int (aset k w)], h) (fun r h' => r = some (.int (b01 (isof k a w))) ∧ h' = h) := by
    intro L hL
    refine w_iload_n mi_a16_15 hL ?_
    refine w_callS mi_a16_16 rfl rfl 2 ⟨rfl, rfl⟩ ⟨Nat.le_of_ble_eq_true rfl, Nat.le_of_ble_eq_true rfl⟩ (s_contains) ?_
    rintro r' h' ⟨rfl, rfl⟩
    exact w_zreturn mi_a16_19 rfl (b01_and _) ⟨rfl, rfl⟩
  refine w_iload_n mi_a16_0 rfl ?_
  refine w_if_ne mi_a16_1 11 (by decide) (fun c1 => ?_) (fun c1 => ?_)
  · obtain ⟨j, hj7, rfl⟩ := rgb_at (n := 7) (by decide) hw
    have e : aset k (nI j) = mi_aw.getD j 0 := by unfold aset; rw [if_neg c1, nI_clamp (by omega)]
    refine w_iload_n mi_a16_11 rfl ?_
    refine w_callS mi_a16_12 rfl rfl 1 ⟨rfl, rfl⟩ ⟨Nat.le_of_ble_eq_true rfl, Nat.le_of_ble_eq_true rfl⟩ (s_actsOfWay (d := d) hw (by rw [nI_clamp (by omega)]; exact li_at (n := 7) (by decide +kernel) hj7)) ?_
    rintro r' h' ⟨rfl, rfl⟩
    rw [← e]
    exact fin _ rfl
  refine w_aload_n mi_a16_4 rfl ?_
  refine w_get mi_a16_5 rfl hj rfl ?_
  refine w_goto mi_a16_8 15 (by decide) ?_
  have e : aset k w = mi_ak.getD k 0 := by unfold aset; rw [if_pos c1]
  rw [← e]
  exact fin _ rfl
theorem s_actOfTaking {d : Nat} (hj : h[ja]? = some (dvc k v c og ic t p an fl ll)) : mi_WC (d + 3) 17 [.ref ja] h (fun r h' => r = some (.int (nI (tka k))) ∧ h' = h) := by
  refine mi_WC.of (X := mi_m17) rfl (Nat.le_of_ble_eq_true rfl) ?_
  refine w_aload_n mi_a17_0 rfl ?_
  refine w_iconstv (v := 3) mi_a17_1 (by decide) ?_
  refine w_callV mi_a17_2 rfl rfl 1 ⟨rfl, rfl⟩ ⟨Nat.le_of_ble_eq_true rfl, Nat.le_of_ble_eq_true rfl⟩ rfl hj rfl rfl (s_bears (d := d) hj) ?_
  rintro r' h' ⟨rfl, rfl⟩
  refine w_if_eq mi_a17_5 10 (by decide) (fun c5 => ?_) (fun c5 => ?_)
  rotate_left
  · refine w_iconstv (v := 4) mi_a17_8 (by decide) ?_
    exact w_ireturn mi_a17_9 rfl ⟨by unfold tka; rw [if_pos ((b01_ne0 _).mp c5)]; rfl, rfl⟩
  refine w_aload_n mi_a17_10 rfl ?_
  refine w_iconstv (v := 2) mi_a17_11 (by decide) ?_
  refine w_callV mi_a17_12 rfl rfl 1 ⟨rfl, rfl⟩ ⟨Nat.le_of_ble_eq_true rfl, Nat.le_of_ble_eq_true rfl⟩ rfl hj rfl rfl (s_bears (d := d) hj) ?_
  rintro r' h' ⟨rfl, rfl⟩
  have e5 : ¬ abl k 3 = true := by rw [(b01_eq0 _).mp c5]; decide
  refine w_if_eq mi_a17_15 22 (by decide) (fun c15 => ?_) (fun c15 => ?_)
  · refine w_bipushv (v := 6) mi_a17_22 (by decide) ?_
    exact w_ireturn mi_a17_24 rfl ⟨by unfold tka; rw [if_neg e5, if_neg (by rw [(b01_eq0 _).mp c15]; decide)]; rfl, rfl⟩
  · refine w_iconstv (v := 1) mi_a17_18 (by decide) ?_
    refine w_goto mi_a17_19 24 (by decide) ?_
    exact w_ireturn mi_a17_24 rfl ⟨by unfold tka; rw [if_neg e5, if_pos ((b01_ne0 _).mp c15)]; rfl, rfl⟩
theorem s_refusal {d : Nat} {a w : Int32} (hj : h[ja]? = some (dvc k v c og ic t p an fl ll)) : mi_WC (d + 4) 50 [.ref ja, .int a, .int w] h (fun r h' => r = some (.int (if rgb a 12 && rgb w 7 then wyk k a w else 1)) ∧ h' = h) := by
  have one : ∀ L : List (Option Value), (rgb a 12 && rgb w 7) = false → mi_W (d + 3) mi_m50 (18, L, [], h) (fun r h' => r = some (.int (if rgb a 12 && rgb w 7 then wyk k a w else 1)) ∧ h' = h) := by
    intro L hf
    refine w_iconstv (v := 1) mi_a50_18 (by decide) ?_
    exact w_ireturn mi_a50_19 rfl ⟨by rw [hf]; rfl, rfl⟩
  refine mi_WC.of (X := mi_m50) rfl (Nat.le_of_ble_eq_true rfl) ?_
  refine w_aload_n mi_a50_0 rfl ?_
  refine w_ifnull mi_a50_1 ?_
  refine w_iload_n mi_a50_4 rfl ?_
  refine w_callS mi_a50_5 rfl rfl 1 ⟨rfl, rfl⟩ ⟨Nat.le_of_ble_eq_true rfl, Nat.le_of_ble_eq_true rfl⟩ (s_cAct) ?_
  rintro r' h' ⟨rfl, rfl⟩
  refine w_if_eq mi_a50_8 18 (by decide) (fun c => one _ (by rw [(b01_eq0 _).mp c, Bool.false_and])) (fun c8 => ?_)
  refine w_iload_n mi_a50_11 rfl ?_
  refine w_callS mi_a50_12 rfl rfl 1 ⟨rfl, rfl⟩ ⟨Nat.le_of_ble_eq_true rfl, Nat.le_of_ble_eq_true rfl⟩ (s_cWay) ?_
  rintro r' h' ⟨rfl, rfl⟩
  refine w_if_ne mi_a50_15 20 (by decide) (fun c15 => ?_) (fun c => one _ (by rw [(b01_eq0 _).mp c, Bool.and_false]))
  have ha := (b01_ne0 _).mp c8
  have hw := (b01_ne0 _).mp c15
  have hf : (if rgb a 12 && rgb w 7 then wyk k a w else 1) = wyk k a w := by rw [ha, hw]; rfl
  rw [hf]
  refine w_aload_n mi_a50_20 rfl ?_
  refine w_iload_n mi_a50_21 rfl ?_
  refine w_callV mi_a50_22 rfl rfl 1 ⟨rfl, rfl⟩ ⟨Nat.le_of_ble_eq_true rfl, Nat.le_of_ble_eq_true rfl⟩ rfl hj rfl rfl (s_bears (d := d + 1) hj) ?_
  rintro r' h' ⟨rfl, rfl⟩
  refine w_if_ne mi_a50_25 30 (by decide) (fun c25 => ?_) (fun c25 => ?_)
  rotate_left
  · refine w_iconstv (v := 2) mi_a50_28 (by decide) ?_
    exact w_ireturn mi_a50_29 rfl ⟨by simp [wyk, (b01_eq0 _).mp c25], rfl⟩
  refine w_aload_n mi_a50_30 rfl ?_
  refine w_iload_n mi_a50_31 rfl ?_
  refine w_iload_n mi_a50_32 rfl ?_
  refine w_callV mi_a50_33 rfl rfl 2 ⟨rfl, rfl⟩ ⟨Nat.le_of_ble_eq_true rfl, Nat.le_of_ble_eq_true rfl⟩ rfl hj rfl rfl (s_hasAct (d := d) hj hw) ?_
  rintro r' h' ⟨rfl, rfl⟩
  refine w_if_eq mi_a50_36 43 (by decide) (fun c36 => ?_) (fun c36 => ?_)
  · refine w_iconstv (v := 3) mi_a50_43 (by decide) ?_
    exact w_ireturn mi_a50_44 rfl ⟨by simp [wyk, (b01_ne0 _).mp c25, (b01_eq0 _).mp c36], rfl⟩
  refine w_iconstv (v := 0) mi_a50_39 (by decide) ?_
  refine w_goto mi_a50_40 44 (by decide) ?_
  exact w_ireturn mi_a50_44 rfl ⟨by simp [wyk, (b01_ne0 _).mp c25, (b01_ne0 _).mp c36], rfl⟩
theorem s_refusalN {d : Nat} {a w : Int32} : mi_WC (d + 1) 50 [.null, .int a, .int w] h (fun r h' => r = some (.int 1) ∧ h' = h) := by
  refine mi_WC.of (X := mi_m50) rfl (Nat.le_of_ble_eq_true rfl) ?_
  refine w_aload_nN mi_a50_0 rfl ?_
  refine w_ifnullN mi_a50_1 18 (by decide) ?_
  refine w_iconstv (v := 1) mi_a50_18 (by decide) ?_
  exact w_ireturn mi_a50_19 rfl ⟨rfl, rfl⟩
end DV
/-- why every() would not be done -/
def wye (a w : Int32) : Int32 := if rgb a 12 && rgb w 7 then (if w = 0 then 0 else if cont (mi_aw.getD w.toNatClampNeg 0) a then 0 else 3) else 1
theorem s_refusalE {d : Nat} {h : mi_H} {a w : Int32} : mi_WC (d + 3) 51 [.int a, .int w] h (fun r h' => r = some (.int (wye a w)) ∧ h' = h) := by
  have one : ∀ L : List (Option Value), (rgb a 12 && rgb w 7) = false → mi_W (d + 2) mi_m51 (14, L, [], h) (fun r h' => r = some (.int (wye a w)) ∧ h' = h) := by
    intro L hf
    refine w_iconstv (v := 1) mi_a51_14 (by decide) ?_
    exact w_ireturn mi_a51_15 rfl ⟨by unfold wye; rw [hf]; rfl, rfl⟩
  refine mi_WC.of (X := mi_m51) rfl (Nat.le_of_ble_eq_true rfl) ?_
  refine w_iload_n mi_a51_0 rfl ?_
  refine w_callS mi_a51_1 rfl rfl 1 ⟨rfl, rfl⟩ ⟨Nat.le_of_ble_eq_true rfl, Nat.le_of_ble_eq_true rfl⟩ (s_cAct) ?_
  rintro r' h' ⟨rfl, rfl⟩
  refine w_if_eq mi_a51_4 14 (by decide) (fun c => one _ (by rw [(b01_eq0 _).mp c, Bool.false_and])) (fun c4 => ?_)
  refine w_iload_n mi_a51_7 rfl ?_
  refine w_callS mi_a51_8 rfl rfl 1 ⟨rfl, rfl⟩ ⟨Nat.le_of_ble_eq_true rfl, Nat.le_of_ble_eq_true rfl⟩ (s_cWay) ?_
  rintro r' h' ⟨rfl, rfl⟩
  refine w_if_ne mi_a51_11 16 (by decide) (fun c11 => ?_) (fun c => one _ (by rw [(b01_eq0 _).mp c, Bool.and_false]))
  have ha := (b01_ne0 _).mp c4
  have hw := (b01_ne0 _).mp c11
  have hf : wye a w = (if w = 0 then 0 else if cont (mi_aw.getD w.toNatClampNeg 0) a then 0 else 3) := by unfold wye; rw [ha, hw]; rfl
  rw [hf]
  refine w_iload_n mi_a51_16 rfl ?_
  refine w_if_eq mi_a51_17 31 (by decide) (fun c17 => ?_) (fun c17 => ?_)
  · refine w_iconstv (v := 0) mi_a51_31 (by decide) ?_
    exact w_ireturn mi_a51_32 rfl ⟨by rw [if_pos c17], rfl⟩
  rw [if_neg c17]
  obtain ⟨j, hj7, rfl⟩ := rgb_at (n := 7) (by decide) hw
  refine w_iload_n mi_a51_20 rfl ?_
  refine w_callS mi_a51_21 rfl rfl 1 ⟨rfl, rfl⟩ ⟨Nat.le_of_ble_eq_true rfl, Nat.le_of_ble_eq_true rfl⟩ (s_actsOfWay (d := d) hw (by rw [nI_clamp (by omega)]; exact li_at (n := 7) (by decide +kernel) hj7)) ?_
  rintro r' h' ⟨rfl, rfl⟩
  refine w_iload_n mi_a51_24 rfl ?_
  refine w_callS mi_a51_25 rfl rfl 2 ⟨rfl, rfl⟩ ⟨Nat.le_of_ble_eq_true rfl, Nat.le_of_ble_eq_true rfl⟩ (s_contains) ?_
  rintro r' h' ⟨rfl, rfl⟩
  rw [nI_clamp (n := j) (by omega)]
  refine w_if_eq mi_a51_28 33 (by decide) (fun c28 => ?_) (fun c28 => ?_)
  · refine w_iconstv (v := 3) mi_a51_33 (by decide) ?_
    exact w_ireturn mi_a51_34 rfl ⟨by rw [if_neg (by rw [(b01_eq0 _).mp c28]; decide)], rfl⟩
  refine w_iconstv (v := 0) mi_a51_31 (by decide) ?_
  exact w_ireturn mi_a51_32 rfl ⟨by rw [if_pos ((b01_ne0 _).mp c28)], rfl⟩
section KS
variable {n m tc pu stt : Int32} {q : List Int32 × Nat} {dv tk : List (Option Nat)} {dyn : mi_H}
theorem s_findN {d : Nat} {x : Int32} (hx : rgb x n = false) : mi_WC (d + 1) 49 [.ref 0, .int x] (kh n m tc pu stt q dv tk dyn) (fun r h' => r = some .null ∧ h' = kh n m tc pu stt q dv tk dyn) := by
  have nul : ∀ L : List (Option Value), mi_W d mi_m49 (19, L, [], kh n m tc pu stt q dv tk dyn) (fun r h' => r = some .null ∧ h' = kh n m tc pu stt q dv tk dyn) := by
    intro L
    refine w_null mi_a49_19 ?_
    exact w_areturnN mi_a49_20 rfl ⟨rfl, rfl⟩
  refine mi_WC.of (X := mi_m49) rfl (Nat.le_of_ble_eq_true rfl) ?_
  refine w_iload_n mi_a49_0 rfl ?_
  refine w_if_lt mi_a49_1 19 (by decide) (fun _ => nul _) (fun c1 => ?_)
  refine w_iload_n mi_a49_4 rfl ?_
  refine w_aload_n mi_a49_5 rfl ?_
  refine w_get mi_a49_6 rfl rfl rfl ?_
  refine w_icmp_ge mi_a49_9 19 (by decide) (fun _ => nul _) (fun c9 => ?_)
  rw [rgb_t.mpr ⟨c1, Int32.not_le.mp c9⟩] at hx
  cases hx
theorem s_find {d i N a : Nat} (hN : N ≤ 300) (hn : n = nI N) (hi : i < N) (hd : dv[i]? = some (some a)) : mi_WC (d + 1) 49 [.ref 0, .int (nI i)] (kh n m tc pu stt q dv tk dyn) (fun r h' => r = some (.ref a) ∧ h' = kh n m tc pu stt q dv tk dyn) := by
  refine mi_WC.of (X := mi_m49) rfl (Nat.le_of_ble_eq_true rfl) ?_
  refine w_iload_n mi_a49_0 rfl ?_
  refine w_if_lt mi_a49_1 19 (by decide) (fun c => absurd c (nI_pos (by omega))) (fun c1 => ?_)
  refine w_iload_n mi_a49_4 rfl ?_
  refine w_aload_n mi_a49_5 rfl ?_
  refine w_get mi_a49_6 rfl rfl rfl ?_
  refine w_icmp_ge mi_a49_9 19 (by decide) (fun c => absurd c (by rw [hn]; exact nI_ge hi (by omega))) (fun c9 => ?_)
  refine w_iload_n mi_a49_12 rfl ?_
  refine w_sipushv (v := 300) mi_a49_13 (by decide) ?_
  refine w_icmp_lt mi_a49_16 21 (by decide) (fun _ => ?_) (fun c => absurd (nI_lt (a := i) (b := 300) (by omega) (by decide)) c)
  refine w_aload_n mi_a49_21 rfl ?_
  refine w_get mi_a49_22 rfl rfl rfl ?_
  refine w_iload_n mi_a49_25 rfl ?_
  refine w_aald mi_a49_26 rfl (nI_pos (by omega)) (by rw [nI_clamp (by omega)]; exact hd) ?_
  exact w_areturn mi_a49_27 rfl ⟨rfl, rfl⟩
theorem s_forget {d : Nat} : mi_WC (d + 1) 1 [.ref 1] (kh n m tc pu stt q dv tk dyn) (fun r h' => r = none ∧ h' = kh n m tc pu stt (q.1, 0) dv tk dyn) := by
  refine mi_WC.of (X := mi_m1) rfl (Nat.le_of_ble_eq_true rfl) ?_
  refine w_aload_n mi_a1_0 rfl ?_
  refine w_iconstv (v := 0) mi_a1_1 (by decide) ?_
  refine w_put mi_a1_2 rfl rfl (Nat.le_of_ble_eq_true rfl) rfl ?_
  exact w_vreturn mi_a1_5 rfl ⟨rfl, rfl⟩
/-- chain(i) -/
def chn (q : List Int32 × Nat) (i : Int32) : Int32 := if rgb i (nI q.2) && rgb i 64 then q.1.getD i.toNatClampNeg 0 else -1
theorem s_keptAt {d : Nat} {i : Int32} (hq : q.1.length = 64) : mi_WC (d + 1) 2 [.ref 1, .int i] (kh n m tc pu stt q dv tk dyn) (fun r h' => r = some (.int (chn q i)) ∧ h' = kh n m tc pu stt q dv tk dyn) := by
  have no : ∀ L : List (Option Value), (rgb i (nI q.2) && rgb i 64) = false → mi_W d mi_m2 (27, L, [], kh n m tc pu stt q dv tk dyn) (fun r h' => r = some (.int (chn q i)) ∧ h' = kh n m tc pu stt q dv tk dyn) := by
    intro L hf
    refine w_iconstv (v := (-1)) mi_a2_27 (by decide) ?_
    exact w_ireturn mi_a2_28 rfl ⟨by unfold chn; rw [hf]; rfl, rfl⟩
  refine mi_WC.of (X := mi_m2) rfl (Nat.le_of_ble_eq_true rfl) ?_
  refine w_iload_n mi_a2_0 rfl ?_
  refine w_if_lt mi_a2_1 27 (by decide) (fun c => no _ (by rw [rgb_f0 c]; rfl)) (fun c1 => ?_)
  refine w_iload_n mi_a2_4 rfl ?_
  refine w_aload_n mi_a2_5 rfl ?_
  refine w_get mi_a2_6 rfl rfl rfl ?_
  refine w_icmp_ge mi_a2_9 27 (by decide) (fun c => no _ (by rw [rgb_f1 c]; rfl)) (fun c9 => ?_)
  refine w_iload_n mi_a2_12 rfl ?_
  refine w_bipushv (v := 64) mi_a2_13 (by decide) ?_
  refine w_icmp_ge mi_a2_15 27 (by decide) (fun c => no _ (by rw [rgb_f1 (n := 64) c, Bool.and_false])) (fun c15 => ?_)
  refine w_aload_n mi_a2_18 rfl ?_
  refine w_get mi_a2_19 rfl rfl rfl ?_
  refine w_iload_n mi_a2_22 rfl ?_
  have h64 : rgb i 64 = true := rgb_t.mpr ⟨c1, Int32.not_le.mp c15⟩
  obtain ⟨j, hj, rfl⟩ := rgb_at (n := 64) (by decide) h64
  refine w_iald mi_a2_23 rfl c1 (by rw [nI_clamp (by omega)]; exact li_at hq hj) ?_
  refine w_goto mi_a2_24 28 (by decide) ?_
  refine w_ireturn mi_a2_28 rfl ⟨?_, rfl⟩
  unfold chn
  rw [rgb_t.mpr ⟨c1, Int32.not_le.mp c9⟩, h64, nI_clamp (by omega)]
  rfl
end KS
/-- an act: what is answered, value and count behind it, which bodies ran -/
def acR (k a : Nat) (x v c : Int32) : Int32 × Int32 × Int32 × List Int32 := match ac_at mi_ch ((10 + nI k) * 12 + nI a) with
  | some b => match ac_ev 8 (nI k) b x v c with
    | some (r, v2, c2) => (r, v2, c2, ac_tr 8 (nI k) b)
    | none => (0, v, c, [])
  | none => (0, v, c, [])
/-- may a device of the kind be told this act? -/
def aok (k a : Nat) : Bool := (ac_sl k a).isSome
theorem ch_tab : ((List.range 11).all fun k => (List.range 12).all fun a => match ac_sl k a with
  | some b => decide (ac_at mi_ch ((10 + nI k) * 12 + nI a) = some b) && decide (ac_at mi_sel (nI k * 12 + nI a) = some b)
  | none => true) = true := by decide +kernel
theorem acR_some {k a : Nat} (hk : k < 11) (ha : a < 12) (h : aok k a = true) (x v c : Int32) : ∃ b, ac_at mi_ch ((10 + nI k) * 12 + nI a) = some b ∧ ac_at mi_sel (nI k * 12 + nI a) = some b ∧ ac_ev 8 (nI k) b x v c = some ((acR k a x v c).1, (acR k a x v c).2.1, (acR k a x v c).2.2.1) ∧ (acR k a x v c).2.2.2 = ac_tr 8 (nI k) b ∧ (ac_tr 8 (nI k) b).length ≤ 200 := by
  unfold aok at h
  obtain ⟨b, hb⟩ := Option.isSome_iff_exists.mp h
  have h1 := List.all_eq_true.mp (List.all_eq_true.mp ch_tab k (List.mem_range.mpr hk)) a (List.mem_range.mpr ha)
  rw [hb] at h1
  simp only [Bool.and_eq_true, decide_eq_true_eq] at h1
  have h2 := ac_all_at ac_ends hk ha hb
  obtain ⟨⟨r, v2, c2⟩, he⟩ := ac_h_ok 8 (nI k) b h2 x v c
  have h3 := Nat.le_of_ble_eq_true (ac_all_at ac_short hk ha hb)
  refine ⟨b, h1.1, h1.2, ?_, ?_, h3⟩
  · unfold acR; simp only [h1.1, he]
  · unfold acR; simp only [h1.1, he]
theorem aok_of {k a : Nat} {w : Int32} (hk : k < 11) (ha : a < 12) (hw : rgb w 7 = true) (h1 : abl k w = true) (h2 : isof k (nI a) w = true) : aok k a = true := by
  have tab : ((List.range 11).all fun k => (List.range 12).all fun a => (List.range 7).all fun w => !(abl k (nI w) && isof k (nI a) (nI w)) || aok k a) = true := by decide +kernel
  obtain ⟨j, hj, rfl⟩ := rgb_at (n := 7) (by decide) hw
  have h := List.all_eq_true.mp (List.all_eq_true.mp (List.all_eq_true.mp tab k (List.mem_range.mpr hk)) a (List.mem_range.mpr ha)) j (List.mem_range.mpr hj)
  rw [h1, h2] at h
  simpa using h
theorem aok_tka : ∀ k, k < 11 → aok k (tka k) = true ∧ tka k < 12 := by decide +kernel
/-- the class's act, from the top -/
theorem c_act {D j k a : Nat} {x v c og ic t p an : Int32} {fl ll : Value} {n m tc pu stt : Int32} {q : List Int32 × Nat} {dv tk : List (Option Nat)} {dyn : mi_H} (hD : 28 ≤ D) (hk : k < 11) (ha : a < 12) (h : aok k a = true) (hq : q.1.length = 64) (hn : q.2 < 2 ^ 30) (hj : dyn[j]? = some (dvc k v c og ic t p an fl ll)) :
  mi_WC D 4 [.ref 1, .ref (j + 6), .int (nI a), .int x, .int 0] (kh n m tc pu stt q dv tk dyn) (fun r' h' => r' = some (.int (acR k a x v c).1) ∧ h' = kh n m tc pu stt (ac_kp (acR k a x v c).2.2.2 q) dv tk (dyn.set j (dvc k (acR k a x v c).2.1 (acR k a x v c).2.2.1 og ic t p an fl ll))) := by
  obtain ⟨b, -, hs, he, htr, hl⟩ := acR_some hk ha h x v c
  rw [htr]
  exact an_ok (rn_all 8) (dp := 0) (by omega) hk he (by omega) hq (by omega) hj (nI_pos (by omega)) (nI_lt (b := 12) ha (by decide)) hs
/-- the model's -/
theorem m_act {D dn k a : Nat} {x v c n m stt fr pl : Int32} {q : List Int32 × Nat} {kO vO cO tO fm to rw an zi fB fA fX pi : List Int32} (hD : 3 ≤ D) (hk : k < 11) (ha : a < 12) (h : aok k a = true) (hdn : dn < 2 ^ 31) (hkO : kO[dn]? = some (nI k)) (hv : vO[dn]? = some v) (hc : cO[dn]? = some c) (hB : fB.length = 100) (hA : fA.length = 100) (hX : fX.length = 100) (hpi : pi.length = 300) (hq : q.1.length = 64) (hn : q.2 < 2 ^ 30) :
  mi_WC D 66 [.ref 0, .int (nI dn), .int (nI a), .int x] (mh n m stt fr pl q kO vO cO tO fm to rw an zi fB fA fX pi) (fun r' h' => r' = some (.int (acR k a x v c).1) ∧ ∃ fB fA fX pi, fB.length = 100 ∧ fA.length = 100 ∧ fX.length = 100 ∧ pi.length = 300 ∧ h' = mh n m stt 0 0 (ac_kp (acR k a x v c).2.2.2 q) kO (vO.set dn (acR k a x v c).2.1) (cO.set dn (acR k a x v c).2.2.1) tO fm to rw an zi fB fA fX pi) := by
  obtain ⟨b, hb, -, he, htr, hl⟩ := acR_some hk ha h x v c
  rw [htr]
  exact mi_WC.mono (s_act (D := 0) hk hdn hkO hv hc hB hA hX hpi hq (by omega) hb he) (by omega)
