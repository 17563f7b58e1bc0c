/-! THE LAW: its start: both objects -/
def mi_plain : Value → Bool
  | .null => true
  | .int _ => true
  | _ => false
theorem mi_plain_ok {n : Nat} {v : Value} (h : mi_plain v = true) : mi_ok n v := by
  cases v <;> first | trivial | exact absurd h (by decide)
theorem mi_okh_one {n ci : Nat} {fs : List Value} (h : fs.all mi_plain = true) : mi_okh n [.inl (ci, fs)] := by
  intro c hc
  rw [List.mem_singleton.mp hc]
  exact fun v hv => mi_plain_ok (List.all_eq_true.mp h v hv)
theorem ct_C_ok : mi_okh ct_C_h0.length ct_C_h0 := mi_okh_one (by decide)
theorem ct_M_ok : mi_okh ct_M_h0.length ct_M_h0 := mi_okh_one (by decide)
theorem ct_C_def : ∀ j, j < 8 → defaultValue (tyX4 j) = vp_V [.null, .null, .null, .int 0, .int 0, .int 0, .int 0, .int 0] j := fun j hj => by
  match j, hj with
  | 0, _ => rfl
  | 1, _ => rfl
  | 2, _ => rfl
  | 3, _ => rfl
  | 4, _ => rfl
  | 5, _ => rfl
  | 6, _ => rfl
  | 7, _ => rfl
  | j + 8, h => exact absurd h (by omega)
theorem ct_M_def : ∀ j, j < 28 → defaultValue (tyX5 j) = vp_V [.null, .null, .null, .null, .null, .null, .null, .null, .null, .null, .null, .null, .int 0, .null, .null, .int 0, .null, .null, .null, .null, .int 0, .int 0, .null, .null, .null, .null, .int 0, .int 0] j := fun j hj => by
  match j, hj with
  | 0, _ => rfl
  | 1, _ => rfl
  | 2, _ => rfl
  | 3, _ => rfl
  | 4, _ => rfl
  | 5, _ => rfl
  | 6, _ => rfl
  | 7, _ => rfl
  | 8, _ => rfl
  | 9, _ => rfl
  | 10, _ => rfl
  | 11, _ => rfl
  | 12, _ => rfl
  | 13, _ => rfl
  | 14, _ => rfl
  | 15, _ => rfl
  | 16, _ => rfl
  | 17, _ => rfl
  | 18, _ => rfl
  | 19, _ => rfl
  | 20, _ => rfl
  | 21, _ => rfl
  | 22, _ => rfl
  | 23, _ => rfl
  | 24, _ => rfl
  | 25, _ => rfl
  | 26, _ => rfl
  | 27, _ => rfl
  | j + 28, h => exact absurd h (by omega)
set_option maxHeartbeats 4000000 in
set_option maxRecDepth 100000 in
theorem lw_start2 {p : Program} {e : Env} {s : State} {m : MethodId} {below : List Frame} {meth : Method} {c : Code} {l : Launch} {b L : Nat} {xs : Nat → Int32} {D : va_G} {cA : Nat → ClassId} {cs : Nat → Nat} (hL : L ≤ 2560) (C0 : lw_At p s m meth c b L xs) (hK : va_K D vwCl (mi_ty cA) s) (hKs : mi_K cs (lw_A s) s) {hx : mi_H} (hC : cR 0 S0 hx) (okx : mi_okh hx.length hx) {σ1 : Nat → Nat} {H : Heap} {locs : List Loc} (hP : va_P D vwCl (mi_w cA σ1 cs hx) H) (hD : va_D (lw_A s) (mi_w cA σ1 cs hx)) (hS : va_S (lw_A s) s.heap H locs) {cells slots : Nat} (hcells : cells = hx.length) (hslots : slots = mi_sz hx) {ls : Array Slot} (hl : lv_has ls 4 [(1, .ref (σ1 0)), (0, .ref b)]) : W p l e room_1 s m #[Value.ref b] below meth c H locs cells slots (lw_Z below #[Value.ref b] s) (F0 m 8 ls []) := by
  obtain ⟨hx0, hb, hr, hml, hown, hts, hX, hbl, hlocks, hgv⟩ := id C0
  have hfix : CallFix p m c code 4 s #[Value.ref b] lw_tbl R_law := ⟨hx0, hb, hml, hown, hts⟩
  have hA0 : ∀ q, s.heap.size ≤ q → lw_A s q := fun _ h => h
  obtain ⟨x1, x2, -⟩ := cR_sz sI_0 hC
  refine va_new (ci := 4) (fs := [.null, .null, .null, .null, .null, .null, .null, .null, .null, .null, .null, .null, .int 0, .null, .null, .int 0, .null, .null, .null, .null, .int 0, .int 0, .null, .null, .null, .null, .int 0, .int 0]) (C := RX5) (T := TX5) (N := 28) hx0 hb hts (fun w hw => mi_Ts_tbl w (mi_v4.1 w hw)) tyX5 tyX5_ok hown (hts (.classLink R_law 10 RX5) (lw_in 330 (by decide +kernel))) (hts (.instantiable RX5 28) (lw_in 331 (by decide +kernel))) (hts (.initialized RX5) (lw_in 4 (by decide +kernel))) hK hP hD hS hA0 rfl ct_M_def (by show cells + 1 ≤ 600000; omega) (by show slots + 28 ≤ 7302250; omega) dL_law_8 (fun q2 H1 hP1 hD1 hS1 => ?_)
  have J : lj D cA cs (lw_A s) σ1 (fun _ => q2) hx ct_M_h0 H1 := lj_new hP1 hD1
  refine lv_dup hx0 hb dL_law_11 rfl ?_
  show W p l e room_1 s m #[Value.ref b] below meth c H1 locs (cells + 1) (slots + 28) (lw_Z below #[Value.ref b] s) (F0 m 12 ls ((List.map (mi_v (fun _ => q2) cs) ([] : List Value)).reverse ++ .ref ((fun _ => q2) 0) :: [.ref q2]))
  refine lw_ini hfix hA0 hK hKs (k := 56) (Y := mi_m56) rfl rfl (idx := 12) (lw_in 332 (by decide +kernel)) (show ct_M_h0[0]? = some (.inl (4, [.null, .null, .null, .null, .null, .null, .null, .null, .null, .null, .null, .null, .int 0, .null, .null, .int 0, .null, .null, .null, .null, .int 0, .int 0, .null, .null, .null, .null, .int 0, .int 0])) from rfl) rfl rfl rfl (fun v hv => absurd hv List.not_mem_nil) ct_M_ok ((ct_M_all (Q := fun r h => r = none ∧ h = ct_M_h10) ⟨rfl, rfl⟩).mono (Nat.le_of_ble_eq_true rfl)) (fun r h' hq => ?_) (lj_sym J) hS1 (by show cells + 1 = 1 + hx.length; omega) (by show slots + 28 = 28 + mi_sz hx; omega) hl.1 (Nat.le_of_ble_eq_true rfl) dL_law_12 (fun r hm σ2 H2 locs2 cells2 slots2 hQ okm hsm hlm J2 hS2 hc2 hs2 => ?_)
  · obtain ⟨-, rfl⟩ := hq
    obtain ⟨m1, m2, -⟩ := mR_sz sI_0 mR_0
    exact ⟨by omega, by omega⟩
  obtain ⟨rfl, rfl⟩ := hQ
  have e2 : σ2 0 = q2 := hsm 0 (by show 0 < 1; decide)
  show W p l e room_1 s m #[Value.ref b] below meth c H2 locs2 cells2 slots2 (lw_Z below #[Value.ref b] s) (F0 m 15 ls [.ref q2])
  refine lv_astore_n (lv' := [(2, .ref q2), (1, .ref (σ1 0)), (0, .ref b)]) hx0 hb dL_law_15 rfl hl (by decide) rfl (fun ls hl => ?_)
  refine lv_iconst (v := nI 0) hx0 hb dL_law_16 (by decide) ?_
  refine lv_istore_n (lv' := [(3, .int (nI 0)), (2, .ref q2), (1, .ref (σ1 0)), (0, .ref b)]) hx0 hb dL_law_17 rfl hl (by decide) rfl (fun ls hl => ?_)
  have hl3 : lv_has ls 4 [(0, .ref b), (1, .ref (σ1 0)), (2, .ref (σ2 0)), (3, .int (nI 0))] := by
    rw [e2]
    exact lv_sub hl [3, 2, 1, 0] rfl
  exact lw_loop hL C0 hK hKs (L + 1) 0 0 S0 hx ct_M_h10 σ1 σ2 H2 locs2 cells2 slots2 ls (by omega) (Nat.zero_le _) (Nat.zero_le _) sI_0 hC mR_0 okx okm (lj_sym J2) hS2 (by omega) (by omega) hl3
set_option maxHeartbeats 4000000 in
set_option maxRecDepth 100000 in
theorem whole_start {p : Program} {e : Env} {s : State} {m : MethodId} {below : List Frame} {meth : Method} {c : Code} (l : Launch) (hflags : l.flags = flags0) {b L : Nat} {xs : Nat → Int32} (hL : L ≤ 2560) (C0 : lw_At p s m meth c b L xs) : W p l e room_1 s m #[Value.ref b] below meth c s.heap [] 0 0 (lw_Z below #[Value.ref b] s) (entryFrame m ([Value.ref b] : List Value).toArray 4) := by
  obtain ⟨hx0, hb, hr, hml, hown, hts, hX, hbl, hlocks, hgv⟩ := id C0
  have hfix : CallFix p m c code 4 s #[Value.ref b] lw_tbl R_law := ⟨hx0, hb, hml, hown, hts⟩
  have hA0 : ∀ q, s.heap.size ≤ q → lw_A s q := fun _ h => h
  obtain ⟨D, cA, hK⟩ := lw_Kc hts
  obtain ⟨cs, hKs⟩ := lw_Ks hts hgv
  have hS : va_S (lw_A s) s.heap s.heap [] := va_S.rf
  have hP : va_P D vwCl [] s.heap := fun k q h => by simp at h
  have hD : va_D (lw_A s) [] := ⟨fun i j p q h => by simp at h, fun k q h => by simp at h⟩
  have hl := lv_entry ([.ref b]) (n := 4) (Nat.le_of_ble_eq_true rfl)
  rw [lg_entry_eq]
  generalize (lg_sl ([.ref b]) ++ List.replicate (4 - (lg_sl ([.ref b])).length) Slot.unset).toArray = ls at hl ⊢
  have hl : lv_has ls 4 [(0, .ref b)] := hl
  refine va_new (ci := 3) (fs := [.null, .null, .null, .int 0, .int 0, .int 0, .int 0, .int 0]) (C := RX4) (T := TX4) (N := 8) hx0 hb hts (fun w hw => mi_Ts_tbl w (mi_v3.1 w hw)) tyX4 tyX4_ok hown (hts (.classLink R_law 7 RX4) (lw_in 7 (by decide +kernel))) (hts (.instantiable RX4 8) (lw_in 8 (by decide +kernel))) (hts (.initialized RX4) (lw_in 1 (by decide +kernel))) hK hP hD hS hA0 rfl ct_C_def (Nat.le_of_ble_eq_true rfl) (Nat.le_of_ble_eq_true rfl) dL_law_0 (fun q1 H1 hP1 hD1 hS1 => ?_)
  have J : lj D cA cs (lw_A s) (fun _ => q1) (fun _ => 0) ct_C_h0 [] H1 := lj_new hP1 hD1
  refine lv_dup hx0 hb dL_law_3 rfl ?_
  show W p l e room_1 s m #[Value.ref b] below meth c H1 [] 1 8 (lw_Z below #[Value.ref b] s) (F0 m 4 ls ((List.map (mi_v (fun _ => q1) cs) ([] : List Value)).reverse ++ .ref ((fun _ => q1) 0) :: [.ref q1]))
  refine lw_ini hfix hA0 hK hKs (k := 36) (Y := mi_m36) rfl rfl (idx := 9) (lw_in 9 (by decide +kernel)) (show ct_C_h0[0]? = some (.inl (3, [.null, .null, .null, .int 0, .int 0, .int 0, .int 0, .int 0])) from rfl) rfl rfl rfl (fun v hv => absurd hv List.not_mem_nil) ct_C_ok (ct_C_all.mono (Nat.le_of_ble_eq_true rfl)) (fun r h' hq => ?_) J hS1 rfl rfl hl.1 (Nat.le_of_ble_eq_true rfl) dL_law_4 (fun r hx σ1 H2 locs2 cells2 slots2 hQ okx hsx hlx J2 hS2 hc2 hs2 => ?_)
  · obtain ⟨-, rfl⟩ := hq
    obtain ⟨m1, m2, -⟩ := cR_sz sI_0 cR_0
    exact ⟨by show _ + 0 ≤ 600000; omega, by show _ + 0 ≤ 7302250; omega⟩
  obtain ⟨rfl, ex⟩ := hQ
  have hC : cR 0 S0 hx := by rw [ex]; exact cR_0
  have e1 : σ1 0 = q1 := hsx 0 (by show 0 < 1; decide)
  show W p l e room_1 s m #[Value.ref b] below meth c H2 locs2 cells2 slots2 (lw_Z below #[Value.ref b] s) (F0 m 7 ls [.ref q1])
  refine lv_astore_n (lv' := [(1, .ref q1), (0, .ref b)]) hx0 hb dL_law_7 rfl hl (by decide) rfl (fun ls hl => ?_)
  exact lw_start2 hL C0 hK hKs hC okx J2.1 J2.2.2.1 hS2 (by rw [hc2]; rfl) (by rw [hs2]; rfl) (by rw [e1]; exact hl)
