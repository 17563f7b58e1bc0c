/-! THE LAW: two worlds side by side; a call of the law, in one of them -/
def R_law : String := "LineOfKinLaw"
def lj (D : va_G) (cA : Nat → ClassId) (cs : Nat → Nat) (A0 : Nat → Prop) (σ1 σ2 : Nat → Nat) (h1 h2 : mi_H) (H : Heap) : Prop :=
  va_P D vwCl (mi_w cA σ1 cs h1) H ∧ va_P D vwCl (mi_w cA σ2 cs h2) H ∧ va_D A0 (mi_w cA σ1 cs h1) ∧ va_D A0 (mi_w cA σ2 cs h2) ∧ ∀ (i j : Nat) (x y : Nat × va_E), (mi_w cA σ1 cs h1)[i]? = some x → (mi_w cA σ2 cs h2)[j]? = some y → x.1 ≠ y.1
theorem lj_sym {D : va_G} {cA : Nat → ClassId} {cs : Nat → Nat} {A0 : Nat → Prop} {σ1 σ2 : Nat → Nat} {h1 h2 : mi_H} {H : Heap} (J : lj D cA cs A0 σ1 σ2 h1 h2 H) : lj D cA cs A0 σ2 σ1 h2 h1 H :=
  ⟨J.2.1, J.1, J.2.2.2.1, J.2.2.1, fun i j x y hx hy z => J.2.2.2.2 j i y x hy hx z.symm⟩
theorem lj_call {D : va_G} {cA : Nat → ClassId} {cs : Nat → Nat} {A0 : Nat → Prop} {σ1 σ2 σ1' : Nat → Nat} {h1 h2 h1' : mi_H} {H H1 : Heap} (J : lj D cA cs A0 σ1 σ2 h1 h2 H) (hA : ∀ q, va_A (mi_w cA σ1 cs h1) H.size q → A0 q) (hk : ∀ q : Nat, q < H.size → ¬ va_A (mi_w cA σ1 cs h1) H.size q → H1[q]? = H[q]?) (hP1 : va_P D vwCl (mi_w cA σ1' cs h1') H1) (hD1 : va_D (va_A (mi_w cA σ1 cs h1) H.size) (mi_w cA σ1' cs h1')) : lj D cA cs A0 σ1' σ2 h1' h2 H1 := by
  obtain ⟨p1, p2, d1, d2, dis⟩ := J
  have out : ∀ (j : Nat) (y : Nat × va_E), (mi_w cA σ2 cs h2)[j]? = some y → y.1 < H.size ∧ ¬ va_A (mi_w cA σ1 cs h1) H.size y.1 := fun j y hy => ⟨(p2 j y hy).lt, fun z => by
    rcases z with ⟨k, e, hk⟩ | z
    · exact dis k j _ y hk hy rfl
    · exact absurd (p2 j y hy).lt (Nat.not_lt.mpr z)⟩
  exact ⟨hP1, p2.kept (fun k q hq => hk q.1 (out k q hq).1 (out k q hq).2), hD1.weaken (fun _ q _ z => hA q.1 z), d2, fun i j x y hx hy e => (out j y hy).2 (e ▸ hD1.2 i x hx)⟩
theorem lj_new {D : va_G} {cA : Nat → ClassId} {cs : Nat → Nat} {A0 : Nat → Prop} {σ1 σ2 : Nat → Nat} {h1 h2 : mi_H} {H : Heap} (hP : va_P D vwCl (mi_w cA σ1 cs h1 ++ mi_w cA σ2 cs h2) H) (hD : va_D A0 (mi_w cA σ1 cs h1 ++ mi_w cA σ2 cs h2)) : lj D cA cs A0 σ1 σ2 h1 h2 H := by
  have g1 : ∀ (i : Nat) (x : Nat × va_E), (mi_w cA σ1 cs h1)[i]? = some x → (mi_w cA σ1 cs h1 ++ mi_w cA σ2 cs h2)[i]? = some x := fun i x hx => by
    rw [List.getElem?_append_left (List.getElem?_eq_some_iff.mp hx).1]; exact hx
  have g2 : ∀ (i : Nat) (x : Nat × va_E), (mi_w cA σ2 cs h2)[i]? = some x → (mi_w cA σ1 cs h1 ++ mi_w cA σ2 cs h2)[(mi_w cA σ1 cs h1).length + i]? = some x := fun i x hx => by
    rw [List.getElem?_append_right (Nat.le_add_right _ _), Nat.add_sub_cancel_left]; exact hx
  refine ⟨fun k q hq => hP k q (g1 k q hq), fun k q hq => hP _ q (g2 k q hq), ⟨fun i j x y hx hy e => hD.1 i j x y (g1 i x hx) (g1 j y hy) e, fun k q hq => hD.2 k q (g1 k q hq)⟩, ⟨fun i j x y hx hy e => ?_, fun k q hq => hD.2 _ q (g2 k q hq)⟩, fun i j x y hx hy e => ?_⟩
  · have := hD.1 _ _ x y (g2 i x hx) (g2 j y hy) e
    omega
  · have h3 := hD.1 _ _ x y (g1 i x hx) (g2 j y hy) e
    have h4 := (List.getElem?_eq_some_iff.mp hx).1
    omega
theorem lw_good {Y : mi_M} (hY : mi_okm Y) : GoodIn lw_tbl (mi_wd Y) := by
  intro w hw
  have hT : w ∈ mi_Ts := by
    rcases List.mem_cons.mp hw with q | q
    · rw [q]; exact hY.2.1
    · exact q
  exact ⟨mi_Ts_tbl w hT, good_of_word (mi_Ts_good w hT)⟩
theorem lw_rm {Y : mi_M} (hY : mi_okm Y) (mc ms : Nat) : (mi_rm 60 mc ms).frames + 1 ≤ room_1.frames ∧ 8 + (Y.2.2.2.1 + 11) + (mi_rm 60 mc ms).locals ≤ room_1.locals := by
  have h40 := hY.2.2.2.2.2.2.2.2.2.2
  refine ⟨Nat.le_of_ble_eq_true rfl, ?_⟩
  show 8 + (Y.2.2.2.1 + 11) + 64 * 60 ≤ 84000
  omega
set_option maxHeartbeats 4000000 in
theorem lw_inv {p : Program} {l : Launch} {e : Env} {s : State} {m : MethodId} {below : List Frame} {meth : Method} {c : Code} {b : Nat} {D : va_G} {cA : Nat → ClassId} {cs : Nat → Nat} {A0 : Nat → Prop} (hfix : CallFix p m c code 4 s #[Value.ref b] lw_tbl R_law) (hA0 : ∀ q, s.heap.size ≤ q → A0 q) (hK : va_K D vwCl (mi_ty cA) s) (hKs : mi_K cs A0 s) {k : Nat} {Y : mi_M} (hY : mi_L[k]? = some Y) (hkY : Y.2.2.2.2.1 = 1) {idx : Nat} (hlink : Cond.methodLink R_law idx Y.2.2.2.2.2.2.1 ∈ lw_tbl) {σ1 σ2 : Nat → Nat} {h1 h2 : mi_H} {vs rest : List Value} {Q : Option Value → mi_H → Prop} {ci : Nat} {fs : List Value} {q0 : String × u_T × Nat × (Nat → FieldType)} (hb0 : h1[0]? = some (.inl (ci, fs))) (hq0 : mi_V[ci]? = some q0) (hqn : q0.1 = mi_cn Y.2.1) (hn : vs.length = Y.2.2.2.2.2.1) (hvs : ∀ v ∈ vs, mi_ok h1.length v) (hh : mi_okh h1.length h1) (hc : mi_WC 60 k (.ref 0 :: vs) h1 Q) (hroom : ∀ r h', Q r h' → h'.length + h2.length ≤ 600000 ∧ mi_sz h' + mi_sz h2 ≤ 7302250) {H : Heap} {locs : List Loc} (J : lj D cA cs A0 σ1 σ2 h1 h2 H) (hS : va_S A0 s.heap H locs) {cells slots : Nat} (hcells : cells = h1.length + h2.length) (hslots : slots = mi_sz h1 + mi_sz h2) {pc : Nat} {ls : Array Slot} (hls : ls.size = 4) (hrest : (rest.map fun v => v.category).sum ≤ 8) (hdg : decode code pc = .ok (.invokevirtual idx, 3)) {Z : State → Prop}
  (kk : ∀ (r : Option Value) (h1' : mi_H) (σ1' : Nat → Nat) (H1 : Heap) (locs1 : List Loc) (cells' slots' : Nat), Q r h1' → mi_okh h1'.length h1' → (∀ k, k < h1.length → σ1' k = σ1 k) → h1.length ≤ h1'.length → lj D cA cs A0 σ1' σ2 h1' h2 H1 → va_S A0 s.heap H1 locs1 → cells' = h1'.length + h2.length → slots' = mi_sz h1' + mi_sz h2 → W p l e room_1 s m #[Value.ref b] below meth c H1 locs1 cells' slots' Z (F0 m (pc + 3) ls ((r.map (mi_v σ1' cs)).toList ++ rest))) : W p l e room_1 s m #[Value.ref b] below meth c H locs cells slots Z (F0 m pc ls ((vs.map (mi_v σ1 cs)).reverse ++ .ref (σ1 0) :: rest)) := by
  obtain ⟨r, h1', hCa, hQ⟩ := hc
  have hYok : mi_okm Y := mi_all Y (List.mem_of_getElem? hY)
  obtain ⟨-, hYc, -, hYi, hYn, hYd, hY0, hY1, hY2, hYa, hYl⟩ := id hYok
  have hts := hfix.2.2.2.2
  have tin : ∀ {w : Cond}, w ∈ mi_Ts → w.before #[Value.ref b] s = true := fun {w} h => hts w (mi_Ts_tbl w h)
  have has : ∀ v ∈ (.ref 0 :: vs : List Value), mi_ok h1.length v := fun v hv => by
    rcases List.mem_cons.mp hv with z | z
    · rw [z]; exact (List.getElem?_eq_some_iff.mp hb0).1
    · exact hvs v z
  obtain ⟨o1, o2, o3, o4⟩ := mi_Ca_ok _ _ _ _ _ _ hCa has hh
  obtain ⟨r1, r2⟩ := hroom r h1' hQ
  have hP := J.1
  have hD := J.2.2.1
  have hFc : ∀ q, va_A (mi_w cA σ1 cs h1) H.size q → A0 q := by
    intro q hq
    rcases hq with ⟨k, e, hk⟩ | hq
    · exact hD.2 k (q, e) hk
    · exact hA0 q (Nat.le_trans hS.1 hq)
  have hM := mi_sound (l := l) (D := D) (cA := cA) (cs := cs) 60 k (.ref 0 :: vs) h1 r h1' hCa has hh Y hY σ1 H.size
  have hPre : ∀ (U : State), U.heap = H → s.WarmedH U.vm → mi_Pc D cA cs σ1 (.ref 0 :: vs) h1 H.size (Value.ref (σ1 0) :: vs.map (mi_v σ1 cs)).toArray U := fun U hU hW => ⟨rfl, by rw [hU], by rw [hU]; exact hP, va_K.moved hW.alike hK, hD.weaken (fun _ _ _ _ => trivial), mi_K_call hKs hS hU hW hFc⟩
  have hcls : q0.1 = Y.2.2.2.2.2.2.1.cls := hqn.trans hYn.symm
  obtain ⟨hi1, hi2⟩ := hY1 hkY
  have hrecv : ∃ cell : Cell, H[σ1 0]? = some cell ∧ cell.vm.isStatics = false ∧ s.vm.findClass Y.2.2.2.2.2.2.1.cls = some cell.cls := by
    rw [← hcls]
    exact va_recv hK hP (mi_V_at hq0) (mi_w_at hb0)
  have hrun : va_Run p l e room_1 s m #[Value.ref b] below meth c H locs cells slots (h1'.length - h1.length) (mi_sz h1' - mi_sz h1) (F0 m pc ls ((vs.map (mi_v σ1 cs)).reverse ++ .ref (σ1 0) :: rest)) rest (mi_Qc D cA cs σ1 h1 H.size r h1' (Value.ref (σ1 0) :: vs.map (mi_v σ1 cs)).toArray) (va_A (mi_w cA σ1 cs h1) H.size) :=
    va_runV hfix hM ⟨callB_of Y.2.2.2.2.2.1 hts (lw_good hYok) rfl rfl rfl (tin hYi) (hts _ hlink) hYd (lw_rm hYok _ _), tin hi1, tin hi2⟩ ⟨mi_Pc_blind, hrecv, hPre⟩ rfl (by rw [List.length_map]; exact hn) hls rfl (lv_room hrest) hdg ⟨by show cells + _ ≤ 600000; omega, by show slots + _ ≤ 7302250; omega⟩
  refine mi_callrow hrun hS (fun q _ hq => hFc q hq) hFc (fun σ' t H1 locs1 ht hvm hs' hP1 hK1 hD1 hz1 hk1 hS1 => ?_)
  exact kk r h1' σ' H1 locs1 _ _ hQ o1 hs' o3 (lj_call J hFc hk1 hP1 hD1) hS1 (by omega) (by omega)
set_option maxHeartbeats 4000000 in
theorem lw_ini {p : Program} {l : Launch} {e : Env} {s : State} {m : MethodId} {below : List Frame} {meth : Method} {c : Code} {b : Nat} {D : va_G} {cA : Nat → ClassId} {cs : Nat → Nat} {A0 : Nat → Prop} (hfix : CallFix p m c code 4 s #[Value.ref b] lw_tbl R_law) (hA0 : ∀ q, s.heap.size ≤ q → A0 q) (hK : va_K D vwCl (mi_ty cA) s) (hKs : mi_K cs A0 s) {k : Nat} {Y : mi_M} (hY : mi_L[k]? = some Y) (hkY : Y.2.2.2.2.1 = 2) {idx : Nat} (hlink : Cond.methodLink R_law idx Y.2.2.2.2.2.2.1 ∈ lw_tbl) {σ1 σ2 : Nat → Nat} {h1 h2 : mi_H} {vs rest : List Value} {Q : Option Value → mi_H → Prop} {ci : Nat} {fs : List Value} {q0 : String × u_T × Nat × (Nat → FieldType)} (hb0 : h1[0]? = some (.inl (ci, fs))) (hq0 : mi_V[ci]? = some q0) (hqn : q0.1 = mi_cn Y.2.1) (hn : vs.length = Y.2.2.2.2.2.1) (hvs : ∀ v ∈ vs, mi_ok h1.length v) (hh : mi_okh h1.length h1) (hc : mi_WC 60 k (.ref 0 :: vs) h1 Q) (hroom : ∀ r h', Q r h' → h'.length + h2.length ≤ 600000 ∧ mi_sz h' + mi_sz h2 ≤ 7302250) {H : Heap} {locs : List Loc} (J : lj D cA cs A0 σ1 σ2 h1 h2 H) (hS : va_S A0 s.heap H locs) {cells slots : Nat} (hcells : cells = h1.length + h2.length) (hslots : slots = mi_sz h1 + mi_sz h2) {pc : Nat} {ls : Array Slot} (hls : ls.size = 4) (hrest : (rest.map fun v => v.category).sum ≤ 8) (hdg : decode code pc = .ok (.invokespecial idx, 3)) {Z : State → Prop}
  (kk : ∀ (r : Option Value) (h1' : mi_H) (σ1' : Nat → Nat) (H1 : Heap) (locs1 : List Loc) (cells' slots' : Nat), Q r h1' → mi_okh h1'.length h1' → (∀ k, k < h1.length → σ1' k = σ1 k) → h1.length ≤ h1'.length → lj D cA cs A0 σ1' σ2 h1' h2 H1 → va_S A0 s.heap H1 locs1 → cells' = h1'.length + h2.length → slots' = mi_sz h1' + mi_sz h2 → W p l e room_1 s m #[Value.ref b] below meth c H1 locs1 cells' slots' Z (F0 m (pc + 3) ls ((r.map (mi_v σ1' cs)).toList ++ rest))) : W p l e room_1 s m #[Value.ref b] below meth c H locs cells slots Z (F0 m pc ls ((vs.map (mi_v σ1 cs)).reverse ++ .ref (σ1 0) :: rest)) := by
  obtain ⟨r, h1', hCa, hQ⟩ := hc
  have hYok : mi_okm Y := mi_all Y (List.mem_of_getElem? hY)
  obtain ⟨-, hYc, -, hYi, hYn, hYd, hY0, hY1, hY2, hYa, hYl⟩ := id hYok
  have hts := hfix.2.2.2.2
  have tin : ∀ {w : Cond}, w ∈ mi_Ts → w.before #[Value.ref b] s = true := fun {w} h => hts w (mi_Ts_tbl w h)
  have has : ∀ v ∈ (.ref 0 :: vs : List Value), mi_ok h1.length v := fun v hv => by
    rcases List.mem_cons.mp hv with z | z
    · rw [z]; exact (List.getElem?_eq_some_iff.mp hb0).1
    · exact hvs v z
  obtain ⟨o1, o2, o3, o4⟩ := mi_Ca_ok _ _ _ _ _ _ hCa has hh
  obtain ⟨r1, r2⟩ := hroom r h1' hQ
  have hP := J.1
  have hD := J.2.2.1
  have hFc : ∀ q, va_A (mi_w cA σ1 cs h1) H.size q → A0 q := by
    intro q hq
    rcases hq with ⟨k, e, hk⟩ | hq
    · exact hD.2 k (q, e) hk
    · exact hA0 q (Nat.le_trans hS.1 hq)
  have hM := mi_sound (l := l) (D := D) (cA := cA) (cs := cs) 60 k (.ref 0 :: vs) h1 r h1' hCa has hh Y hY σ1 H.size
  have hPre : ∀ (U : State), U.heap = H → s.WarmedH U.vm → mi_Pc D cA cs σ1 (.ref 0 :: vs) h1 H.size (Value.ref (σ1 0) :: vs.map (mi_v σ1 cs)).toArray U := fun U hU hW => ⟨rfl, by rw [hU], by rw [hU]; exact hP, va_K.moved hW.alike hK, hD.weaken (fun _ _ _ _ => trivial), mi_K_call hKs hS hU hW hFc⟩
  have hcls : q0.1 = Y.2.2.2.2.2.2.1.cls := hqn.trans hYn.symm
  obtain ⟨hi1, hi2, hi3⟩ := hY2 hkY
  have hw3 : mi_wd Y = Cond.code Y.2.2.2.2.2.2.1 Y.2.2.2.2.2.2.2 Y.2.2.2.1 none :: mi_Ts := by unfold mi_wd; rw [hi3]
  have hrun : va_Run p l e room_1 s m #[Value.ref b] below meth c H locs cells slots (h1'.length - h1.length) (mi_sz h1' - mi_sz h1) (F0 m pc ls ((vs.map (mi_v σ1 cs)).reverse ++ .ref (σ1 0) :: rest)) rest (mi_Qc D cA cs σ1 h1 H.size r h1' (Value.ref (σ1 0) :: vs.map (mi_v σ1 cs)).toArray) (va_A (mi_w cA σ1 cs h1) H.size) :=
    va_runI hfix hM ⟨callB_of Y.2.2.2.2.2.1 hts (lw_good hYok) hw3 rfl rfl (tin hYi) (hts _ hlink) hYd (lw_rm hYok _ _), hi2, tin hi1⟩ ⟨mi_Pc_blind, hPre⟩ rfl (by rw [List.length_map]; exact hn) hls rfl (lv_room hrest) hdg ⟨by show cells + _ ≤ 600000; omega, by show slots + _ ≤ 7302250; omega⟩
  refine mi_callrow hrun hS (fun q _ hq => hFc q hq) hFc (fun σ' t H1 locs1 ht hvm hs' hP1 hK1 hD1 hz1 hk1 hS1 => ?_)
  exact kk r h1' σ' H1 locs1 _ _ hQ o1 hs' o3 (lj_call J hFc hk1 hP1 hD1) hS1 (by omega) (by omega)
