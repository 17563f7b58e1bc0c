section MIW
variable {p : Program} {l : Launch} {e : Env} {R : Room} {s : State} {m : MethodId} {args : Array Value} {below : List Frame} {meth : Method} {c : Code} {H : Heap} {locs : List Loc} {cells slots : Nat} {Q : State → Prop}
variable {cc : ByteArray} {pc : Nat} {ls : Array Slot} {rest : List Value}
theorem mi_if1_row (hexec : p.tables.exec = Jvm.exec) (hb : c.code = cc) {cd : ClassFile.Cond} {x : Int32} {off : Int} {tgt : Nat} (hdg : decode cc pc = .ok (.ifCond cd off, 3)) (ht : (pc : Int) + off = (tgt : Int)) (hh : Op.ifCond.holds cd x = true)
    (k : W p l e R s m args below meth c H locs cells slots Q (F0 m tgt ls rest)) : W p l e R s m args below meth c H locs cells slots Q (F0 m pc ls (.int x :: rest)) := by
  intro T hT X
  obtain ⟨t, a, b⟩ := k T hT X
  refine ⟨t, ?_, b⟩
  jvm_step X.here [X.here.top, hexec, hb, hdg, hh, ht]
  exact a
theorem mi_if1_not (hexec : p.tables.exec = Jvm.exec) (hb : c.code = cc) {cd : ClassFile.Cond} {x : Int32} {off : Int} (hdg : decode cc pc = .ok (.ifCond cd off, 3)) (hh : ¬ Op.ifCond.holds cd x = true)
    (k : W p l e R s m args below meth c H locs cells slots Q (F0 m (pc + 3) ls rest)) : W p l e R s m args below meth c H locs cells slots Q (F0 m pc ls (.int x :: rest)) := by
  intro T hT X
  obtain ⟨t, a, b⟩ := k T hT X
  refine ⟨t, ?_, b⟩
  jvm_step X.here [X.here.top, hexec, hb, hdg, hh]
  exact a
theorem mi_if2_row (hexec : p.tables.exec = Jvm.exec) (hb : c.code = cc) {cd : ClassFile.Cond} {x y : Int32} {off : Int} {tgt : Nat} (hdg : decode cc pc = .ok (.if_icmp cd off, 3)) (ht : (pc : Int) + off = (tgt : Int)) (hh : Op.if_icmp.holds cd x y = true)
    (k : W p l e R s m args below meth c H locs cells slots Q (F0 m tgt ls rest)) : W p l e R s m args below meth c H locs cells slots Q (F0 m pc ls (.int y :: .int x :: rest)) := by
  intro T hT X
  obtain ⟨t, a, b⟩ := k T hT X
  refine ⟨t, ?_, b⟩
  jvm_step X.here [X.here.top, hexec, hb, hdg, hh, ht]
  exact a
theorem mi_if2_not (hexec : p.tables.exec = Jvm.exec) (hb : c.code = cc) {cd : ClassFile.Cond} {x y : Int32} {off : Int} (hdg : decode cc pc = .ok (.if_icmp cd off, 3)) (hh : ¬ Op.if_icmp.holds cd x y = true)
    (k : W p l e R s m args below meth c H locs cells slots Q (F0 m (pc + 3) ls rest)) : W p l e R s m args below meth c H locs cells slots Q (F0 m pc ls (.int y :: .int x :: rest)) := by
  intro T hT X
  obtain ⟨t, a, b⟩ := k T hT X
  refine ⟨t, ?_, b⟩
  jvm_step X.here [X.here.top, hexec, hb, hdg, hh]
  exact a
variable {D : va_G} {cA : Nat → ClassId} {cs σ : Nat → Nat} {h h' : mi_H} {r : Option Value} {st0 : List Value} {a : Array Value} {A0 : Nat → Prop} {H0 : Heap} {mc ms : Nat} {free : Addr → Prop}
theorem mi_callrow (hr : va_Run p l e R s m args below meth c H locs cells slots mc ms (F0 m pc ls st0) rest (mi_Qc D cA cs σ h H.size r h' a) free) (hS : va_S A0 H0 H locs) (hA : ∀ q, q < H.size → va_A (mi_w cA σ cs h) H.size q → A0 q) (hf : ∀ q, free q → A0 q)
    (kk : ∀ (σ' : Nat → Nat) (t : State) (H1 : Heap) (locs1 : List Loc), t.heap = H1 → s.vm.Alike t.vm → (∀ k, k < h.length → σ' k = σ k) → va_P D vwCl (mi_w cA σ' cs h') H1 → va_K D vwCl (mi_ty cA) t → va_D (va_A (mi_w cA σ cs h) H.size) (mi_w cA σ' cs h') → H.size ≤ H1.size → (∀ q : Nat, q < H.size → ¬ va_A (mi_w cA σ cs h) H.size q → H1[q]? = H[q]?) → va_S A0 H0 H1 locs1 → W p l e R s m args below meth c H1 locs1 (cells + mc) (slots + ms) Q (F0 m (pc + 3) ls ((r.map (mi_v σ' cs)).toList ++ rest))) : W p l e R s m args below meth c H locs cells slots Q (F0 m pc ls st0) := by
  intro T hT X
  obtain ⟨v, st₀, t, T', L, h0, X', hL, e1, e2, ⟨⟨σ', g1, hv, g2, g3, g4⟩, hz, hk⟩, st⟩ := hr T hT X
  cases hv
  rw [h0] at hz hk
  obtain ⟨t2, a1, b1⟩ := kk σ' t T'.heap (locs ++ L) e1.symm (by rw [← e2]; exact X'.warmed.alike) g1 (by rw [e1]; exact g2) g3 g4 (by rw [e1]; exact hz) (fun q h1 h2 => by rw [e1]; exact hk q h1 h2)
    ⟨Nat.le_trans hS.1 (by rw [e1]; exact hz), fun q h1 h2 => by rw [e1, hk q (Nat.lt_of_lt_of_le h1 hS.1) (fun z => h2 (hA q (Nat.lt_of_lt_of_le h1 hS.1) z))]; exact hS.2.1 q h1 h2, fun q hq => by
      rcases List.mem_append.mp hq with h | h
      · exact hS.2.2 q h
      · exact hf _ (hL q h)⟩ T' rfl X'
  exact ⟨t2, st t2 a1, b1⟩
end MIW
theorem mi_catsum {n : Nat} {σ cs : Nat → Nat} : ∀ {st : List Value}, (∀ v ∈ st, mi_ok n v) → ((st.map (mi_v σ cs)).map fun v => v.category).sum = st.length
  | [], _ => rfl
  | v :: st, hs => by
    have h1 := mi_catsum (σ := σ) (cs := cs) (List.forall_mem_cons.mp hs).2
    have h2 := mi_cat (σ := σ) (cs := cs) (List.forall_mem_cons.mp hs).1
    simp only [List.map_cons, List.sum_cons, List.length_cons, h2, h1]
    omega
theorem mi_fun_set {xs : List Int32} {i : Nat} {x : Int32} (hi : i < xs.length) : upd (fun j => xs.getD j 0) i x = fun j => (xs.set i x).getD j 0 := by
  funext j
  simp only [upd, List.getD_eq_getElem?_getD, List.getElem?_set]
  by_cases q : j = i
  · subst q; simp [hi]
  · rw [if_neg q, if_neg (fun z : i = j => q z.symm)]
theorem mi_fun_setq {σ : Nat → Nat} {xs : List (Option Nat)} {i v : Nat} (hi : i < xs.length) : va_up (fun j => (xs.getD j none).map σ) i (some (σ v)) = fun j => ((xs.set i (some v)).getD j none).map σ := by
  funext j
  simp only [va_up, List.getD_eq_getElem?_getD, List.getElem?_set]
  by_cases q : j = i
  · subst q; simp [hi]
  · rw [if_neg q, if_neg (fun z : i = j => q z.symm)]
theorem mi_fun_new (n : Nat) : (fun j => (List.replicate n (0 : Int32)).getD j 0) = fun _ => 0 := by
  funext j
  simp only [List.getD_eq_getElem?_getD, List.getElem?_replicate]
  split <;> rfl
theorem mi_fun_newq (σ : Nat → Nat) (n : Nat) : (fun j => ((List.replicate n (none : Option Nat)).getD j none).map σ) = fun _ => none := by
  funext j
  simp only [List.getD_eq_getElem?_getD, List.getElem?_replicate]
  split <;> rfl
/-- what a body is told of its method -/
def mi_Cx (p : Program) (s : State) (m : MethodId) (args : Array Value) (meth : Method) (c : Code) (X : mi_M) (D : va_G) (cA : Nat → ClassId) (cs : Nat → Nat) (A : Nat → Prop) : Prop :=
  p.tables.exec = Jvm.exec ∧ c.code = X.2.2.2.2.2.2.2 ∧ c.maxLocals = X.2.2.2.1 ∧ meth.sig.returnType = X.2.2.1 ∧ (∀ w ∈ mi_wd X, w.before args s = true) ∧ s.vm.findClass (mi_cn X.2.1) = some m.cls ∧ meth.locks = false ∧ (X.2.2.2.2.1 = 2 → meth.name = "<init>") ∧ va_K D vwCl (mi_ty cA) s ∧ mi_K cs A s
/-- the contracts of what is called, at most d deep -/
def mi_IH (l : Launch) (D : va_G) (cA : Nat → ClassId) (cs : Nat → Nat) (d : Nat) : Prop := ∀ (k : Nat) (as : List Value) (h : mi_H) (r : Option Value) (h' : mi_H), mi_Ca d k as h r h' → (∀ v ∈ as, mi_ok h.length v) → mi_okh h.length h → ∀ X, mi_L[k]? = some X → ∀ (σ : Nat → Nat) (sz : Nat),
  Met l X.2.2.2.2.2.2.1 (mi_wd X) (mi_rm d (h'.length - h.length) (mi_sz h' - mi_sz h)) (mi_Pc D cA cs σ as h sz) (mi_Qc D cA cs σ h sz r h') (h'.length - h.length) (mi_sz h' - mi_sz h) (va_A (mi_w cA σ cs h) sz)
theorem mi_goodIn {X Y : mi_M} (hY : mi_okm Y) : GoodIn (mi_wd X) (mi_wd Y) := by
  intro w hw
  have hT : w ∈ mi_Ts := by
    rcases List.mem_cons.mp hw with q | q
    · rw [q]; exact hY.2.1
    · exact q
  exact ⟨List.mem_cons_of_mem _ hT, good_of_word (mi_Ts_good w hT)⟩
theorem mi_arr_eq {s : State} {D : va_G} {cA : Nat → ClassId} {c2 : ClassId} {ty : FieldType} {t0 : Nat} (hK : va_K D vwCl (mi_ty cA) s) (h0 : (mi_ty cA)[t0]? = some (cA t0, ty)) (h : va_K D vwCl (mi_ty cA ++ [(c2, ty)]) s) : c2 = cA t0 := by
  have a := (hK.2 t0 _ h0).2
  have b := (h.2 3 (c2, ty) rfl).2
  cases ty with
  | object C =>
    obtain ⟨_, _, -, -, -, a4⟩ := a
    obtain ⟨_, _, -, -, -, b4⟩ := b
    exact Option.some.inj (b4.symm.trans a4)
  | _ => exact Option.some.inj (b.symm.trans a)
set_option maxHeartbeats 16000000 in
set_option maxRecDepth 100000 in
theorem mi_walk {l : Launch} {D : va_G} {cA : Nat → ClassId} {cs : Nat → Nat} {d : Nat} (IH : mi_IH l D cA cs d) {p : Program} {e : Env} {s : State} {m : MethodId} {args : Array Value} {below : List Frame} {meth : Method} {c : Code} {X : mi_M} (hX : mi_okm X) {σ0 : Nat → Nat} {h0 : mi_H} {A : Nat → Prop} (hAe : va_A (mi_w cA σ0 cs h0) s.heap.size = A) (hC : mi_Cx p s m args meth c X D cA cs A) :
    ∀ (n pc : Nat) (L : List (Option Value)) (st : List Value) (h : mi_H) (r : Option Value) (h' : mi_H), mi_it (mi_Ca d) X n (pc, L, st, h) r h' → mi_okF X.2.2.2.1 (pc, L, st, h) → h0.length ≤ h.length → mi_sz h0 ≤ mi_sz h → ∀ (σ : Nat → Nat) (H : Heap) (locs : List Loc) (ls : Array Slot), (∀ k, k < h0.length → σ k = σ0 k) → va_P D vwCl (mi_w cA σ cs h) H → va_D A (mi_w cA σ cs h) → va_S A s.heap H locs → mi_lv σ cs ls L →
      W p l e (mi_rm (d + 1) (h'.length - h0.length) (mi_sz h' - mi_sz h0)) s m args below meth c H locs (h.length - h0.length) (mi_sz h - mi_sz h0) (MQ below (mi_Qc D cA cs σ0 h0 s.heap.size r h') args s (h'.length - h0.length) (mi_sz h' - mi_sz h0) A) (F0 m pc ls (st.map (mi_v σ cs))) := by
  obtain ⟨hx, hb, hml, hr, hts, hown, hlocks, hnm, hK, hKs⟩ := hC
  have hA : ∀ q : Nat, s.heap.size ≤ q → A q := fun q h => by rw [← hAe]; exact Or.inr h
  intro n
  induction n with
  | zero => intro pc L st h r h' q; exact absurd q id
  | succ n ih =>
    intro pc L st h r h' hit hF hlen hsz σ H locs ls hσ hP hD hS hlv
    obtain ⟨i, len, hlk, N, hop, hfin⟩ := mi_it_step hit
    dsimp only at hlk hop
    have hN := mi_op_ok hop hF
    obtain ⟨hL1, hL2, hst, hh⟩ := id hF
    dsimp only at hL1 hL2 hst hh
    have hdg := mi_look_ok hX.1 hlk
    clear hlk hit
    have hRok : ∀ F', N = .inl F' → F'.2.2.2.length ≤ h'.length ∧ mi_sz F'.2.2.2 ≤ mi_sz h' := by
      intro F' hF'
      subst hF'
      have q := mi_it_ok (mi_Ca_ok d) n F' r h' hfin hN.1
      exact ⟨q.2.2.1, q.2.2.2⟩
    have nx : ∀ (pc' : Nat) (L' : List (Option Value)) (st' : List Value) (ls' : Array Slot), N = .inl (pc', L', st', h) → mi_lv σ cs ls' L' → W p l e (mi_rm (d + 1) (h'.length - h0.length) (mi_sz h' - mi_sz h0)) s m args below meth c H locs (h.length - h0.length) (mi_sz h - mi_sz h0) (MQ below (mi_Qc D cA cs σ0 h0 s.heap.size r h') args s (h'.length - h0.length) (mi_sz h' - mi_sz h0) A) (F0 m pc' ls' (st'.map (mi_v σ cs))) := by
      intro pc' L' st' ls' hN' hlv'
      subst hN'
      exact ih pc' L' st' h r h' hfin hN.1 hlen hsz σ H locs ls' hσ hP hD hS hlv'
    have nxS : ∀ (a : Nat) (c0 c1 : mi_C) (pc' : Nat) (st' : List Value) (H1 : Heap) (locs1 : List Loc), N = .inl (pc', L, st', h.set a c1) → h[a]? = some c0 → mi_szc c1 = mi_szc c0 → va_P D vwCl (mi_w cA σ cs (h.set a c1)) H1 → va_D A (mi_w cA σ cs (h.set a c1)) → va_S A s.heap H1 locs1 → W p l e (mi_rm (d + 1) (h'.length - h0.length) (mi_sz h' - mi_sz h0)) s m args below meth c H1 locs1 (h.length - h0.length) (mi_sz h - mi_sz h0) (MQ below (mi_Qc D cA cs σ0 h0 s.heap.size r h') args s (h'.length - h0.length) (mi_sz h' - mi_sz h0) A) (F0 m pc' ls (st'.map (mi_v σ cs))) := by
      intro a c0 c1 pc' st' H1 locs1 hN' ha hz hP1 hD1 hS1
      subst hN'
      have q := ih pc' L st' (h.set a c1) r h' hfin hN.1 (by rw [List.length_set]; exact hlen) (by rw [mi_sz_set ha hz]; exact hsz) σ H1 locs1 ls hσ hP1 hD1 hS1 hlv
      rwa [List.length_set, mi_sz_set ha hz] at q
    have nxA : ∀ (c1 : mi_C) (pc' q : Nat) (st' : List Value) (H1 : Heap) (ms : Nat), N = .inl (pc', L, .ref h.length :: st', h ++ [c1]) → (∀ v ∈ st', mi_ok h.length v) → mi_szc c1 = ms → va_P D vwCl (mi_w cA σ cs h ++ [(q, mi_e cA (mi_up σ h.length q) cs c1)]) H1 → va_D A (mi_w cA σ cs h ++ [(q, mi_e cA (mi_up σ h.length q) cs c1)]) → va_S A s.heap H1 locs → W p l e (mi_rm (d + 1) (h'.length - h0.length) (mi_sz h' - mi_sz h0)) s m args below meth c H1 locs (h.length - h0.length + 1) (mi_sz h - mi_sz h0 + ms) (MQ below (mi_Qc D cA cs σ0 h0 s.heap.size r h') args s (h'.length - h0.length) (mi_sz h' - mi_sz h0) A) (F0 m pc' ls (.ref q :: st'.map (mi_v σ cs))) := by
      intro c1 pc' q st' H1 ms hN' hs' hz hP1 hD1 hS1
      subst hN'
      subst hz
      rw [mi_w_push hh] at hP1 hD1
      have z := ih pc' L (.ref h.length :: st') (h ++ [c1]) r h' hfin hN.1 (by rw [List.length_append]; omega) (by rw [mi_sz_push]; omega) (mi_up σ h.length q) H1 locs ls (fun k hk => by rw [mi_up_lt k (Nat.lt_of_lt_of_le hk hlen)]; exact hσ k hk) hP1 hD1 hS1 (mi_lv_up mi_up_lt hL2 hlv)
      rw [List.map_cons, List.map_congr_left (fun v hv => mi_v_congr (σ := σ) (cs := cs) mi_up_lt (hs' v hv))] at z
      have e1 : (h ++ [c1]).length - h0.length = h.length - h0.length + 1 := by rw [List.length_append, List.length_singleton]; omega
      have e2 : mi_sz (h ++ [c1]) - mi_sz h0 = mi_sz h - mi_sz h0 + mi_szc c1 := by rw [mi_sz_push]; omega
      rw [e1, e2] at z
      have e3 : mi_v (mi_up σ h.length q) cs (.ref h.length) = .ref q := by simp [mi_v, mi_up]
      rw [e3] at z
      exact z
    have room : ∀ (c1 : mi_C) (pc' : Nat) (st' : List Value), N = .inl (pc', L, st', h ++ [c1]) → h.length - h0.length + 1 ≤ (mi_rm (d + 1) (h'.length - h0.length) (mi_sz h' - mi_sz h0)).cells ∧ mi_sz h - mi_sz h0 + mi_szc c1 ≤ (mi_rm (d + 1) (h'.length - h0.length) (mi_sz h' - mi_sz h0)).slots := by
      intro c1 pc' st' hN'
      obtain ⟨q1, q2⟩ := hRok _ hN'
      dsimp only at q1 q2
      rw [List.length_append, List.length_singleton] at q1
      rw [mi_sz_push] at q2
      exact ⟨by show _ ≤ h'.length - h0.length; omega, by show _ ≤ mi_sz h' - mi_sz h0; omega⟩
    have fld : ∀ {idx ci k : Nat} {nest : Bool}, ((mi_Fl[X.2.1]?).getD []).lookup idx = some (ci, k, nest) → ∃ q, mi_V[ci]? = some q ∧ k < q.2.2.1 ∧ (nest = true → Cond.fieldLinkNest (mi_cn X.2.1) idx q.1 (q.2.1 k).2.1 (q.2.1 k).2.2.1 "LineOfKin" ∈ mi_nest) ∧ (nest = false → Cond.fieldLink (mi_cn X.2.1) idx q.1 (q.2.1 k).2.1 (q.2.1 k).2.2.1 ∈ mi_Ts) ∧ mi_okv q := by
      intro idx ci k nest hlk
      obtain ⟨q, h1, h2, h3⟩ := mi_allf X.2.1 _ (mi_lookup_mem2 hlk)
      refine ⟨q, h1, h2, fun hn => ?_, fun hn => ?_, mi_allV q (List.mem_of_getElem? h1)⟩
      · subst hn; simpa using h3
      · subst hn; simpa using h3
    have tin : ∀ {w : Cond}, w ∈ mi_Ts → w.before args s = true := fun hw => hts _ (List.mem_cons_of_mem _ hw)
    have ild : ∀ {k : Nat} {x : Int32}, L[k]? = some (some (.int x)) → ls[k]? = some (.val (.int x)) := fun q => hlv.2.2 _ _ q
    have hlen' : ls.size = X.2.2.2.1 := hlv.1.trans hL1
    have hhas := mi_lv_has hlv
    have CALL : ∀ {kd idx : Nat}, mi_inv kd X.2.1 idx pc L st h = some N → (kd = 0 → decode X.2.2.2.2.2.2.2 pc = .ok (.invokestatic idx, 3)) → (kd = 1 → decode X.2.2.2.2.2.2.2 pc = .ok (.invokevirtual idx, 3)) → (kd = 2 → decode X.2.2.2.2.2.2.2 pc = .ok (.invokespecial idx, 3)) → kd ≤ 2 → W p l e (mi_rm (d + 1) (h'.length - h0.length) (mi_sz h' - mi_sz h0)) s m args below meth c H locs (h.length - h0.length) (mi_sz h - mi_sz h0) (MQ below (mi_Qc D cA cs σ0 h0 s.heap.size r h') args s (h'.length - h0.length) (mi_sz h' - mi_sz h0) A) (F0 m pc ls (st.map (mi_v σ cs))) := by
      intro kd idx hop hd0 hd1 hd2 hkd
      rcases mi_inv_inv hop with ⟨rfl, ho, a, rr, rfl, hr4, hN'⟩ | ⟨k, nest, Y, hml2, hY, hkY, hnY, h8, hcase⟩
      · refine W.objInit hx hb hown (tin (mi_allo _ _ ho)) (tin mi_oi1) (tin mi_oi2) rfl (by rw [hml]; exact hlen') rfl (hd2 rfl) (by show 1 ≤ d + 1; omega) ?_ ?_
        · show 2 * 0 + ((rr.map (mi_v σ cs)).map fun v => v.category).sum + 12 ≤ 64 * (d + 1)
          rw [mi_catsum (fun v hv => hst v (List.mem_cons_of_mem _ hv))]
          omega
        · exact nx (pc + 3) L rr ls hN' hlv
      · have hYok : mi_okm Y := mi_all Y (List.mem_of_getElem? hY)
        obtain ⟨-, hYc, -, hYi, hYn, hYd, hY0, hY1, hY2, hYa, hYl⟩ := id hYok
        obtain ⟨Y2, hY2e, hlink⟩ := mi_alll X.2.1 _ (mi_lookup_mem2 hml2)
        have hYY : Y2 = Y := Option.some.inj (hY2e.symm.trans hY)
        subst hYY
        have hlk1 : nest = true → va_Nw (.methodLinkNest (mi_cn X.2.1) idx Y2.2.2.2.2.2.2.1 "LineOfKin") s := fun hn => hKs.1 _ (by subst hn; simpa using hlink)
        have hlk0 : nest = false → (Cond.methodLink (mi_cn X.2.1) idx Y2.2.2.2.2.2.2.1).before args s = true := fun hn => tin (by subst hn; simpa using hlink)
        -- the call, as a run of the kit, gives the rest
        have REST : ∀ (as rst : List Value), N = .inr (.inl (k, as, (pc + 3, L, rst, h))) → (∀ (mc ms : Nat) (r1 : Option Value) (h1 : mi_H), mc = h1.length - h.length → ms = mi_sz h1 - mi_sz h → h.length - h0.length + mc ≤ (mi_rm (d + 1) (h'.length - h0.length) (mi_sz h' - mi_sz h0)).cells ∧ mi_sz h - mi_sz h0 + ms ≤ (mi_rm (d + 1) (h'.length - h0.length) (mi_sz h' - mi_sz h0)).slots → Met l Y2.2.2.2.2.2.2.1 (mi_wd Y2) (mi_rm d mc ms) (mi_Pc D cA cs σ as h H.size) (mi_Qc D cA cs σ h H.size r1 h1) mc ms (va_A (mi_w cA σ cs h) H.size) → va_Run p l e (mi_rm (d + 1) (h'.length - h0.length) (mi_sz h' - mi_sz h0)) s m args below meth c H locs (h.length - h0.length) (mi_sz h - mi_sz h0) mc ms (F0 m pc ls (st.map (mi_v σ cs))) (rst.map (mi_v σ cs)) (mi_Qc D cA cs σ h H.size r1 h1 (as.map (mi_v σ cs)).toArray) (va_A (mi_w cA σ cs h) H.size)) → W p l e (mi_rm (d + 1) (h'.length - h0.length) (mi_sz h' - mi_sz h0)) s m args below meth c H locs (h.length - h0.length) (mi_sz h - mi_sz h0) (MQ below (mi_Qc D cA cs σ0 h0 s.heap.size r h') args s (h'.length - h0.length) (mi_sz h' - mi_sz h0) A) (F0 m pc ls (st.map (mi_v σ cs))) := by
          intro as rst hN' hrun
          subst hN'
          obtain ⟨⟨c1, c2, c3, c4⟩, -, has⟩ := hN
          obtain ⟨r1, h1, hcall, hrest⟩ := hfin
          dsimp only at c1 c2 c3 c4 hcall hrest
          obtain ⟨o1, o2, o3, o4⟩ := mi_Ca_ok _ _ _ _ _ _ hcall has c4
          have okF1 : mi_okF X.2.2.2.1 (pc + 3, L, r1.toList ++ rst, h1) := ⟨c1, fun v hv => mi_ok_mono o3 (c2 v hv), fun v hv => by
            rcases List.mem_append.mp hv with z | z
            · exact o2 v (by cases r1 with
                | none => cases z
                | some w => rw [List.mem_singleton.mp z])
            · exact mi_ok_mono o3 (c3 v z), o1⟩
          obtain ⟨-, -, p3, p4⟩ := mi_it_ok (mi_Ca_ok d) n _ r h' hrest okF1
          dsimp only at p3 p4
          have hroom : h.length - h0.length + (h1.length - h.length) ≤ (mi_rm (d + 1) (h'.length - h0.length) (mi_sz h' - mi_sz h0)).cells ∧ mi_sz h - mi_sz h0 + (mi_sz h1 - mi_sz h) ≤ (mi_rm (d + 1) (h'.length - h0.length) (mi_sz h' - mi_sz h0)).slots := ⟨by show _ ≤ h'.length - h0.length; omega, by show _ ≤ mi_sz h' - mi_sz h0; omega⟩
          have hFc : ∀ q, va_A (mi_w cA σ cs h) H.size q → A q := by
            intro q hq
            rcases hq with ⟨k, e, hk⟩ | hq
            · exact hD.2 k (q, e) hk
            · exact hA q (Nat.le_trans hS.1 hq)
          refine mi_callrow (hrun _ _ r1 h1 rfl rfl hroom (IH k as h r1 h1 hcall has c4 _ hY σ H.size)) hS (fun q _ hq => hFc q hq) hFc (fun σ' t H1 locs1 ht hvm hs' hP1 hK1 hD1 hz1 hk1 hS1 => ?_)
          have z := ih (pc + 3) L (r1.toList ++ rst) h1 r h' hrest okF1 (Nat.le_trans hlen o3) (Nat.le_trans hsz o4) σ' H1 locs1 ls (fun k hk => by rw [hs' k (Nat.lt_of_lt_of_le hk hlen)]; exact hσ k hk) hP1 (hD1.weaken (fun _ q _ z => hFc q.1 z)) hS1 (mi_lv_up hs' hL2 hlv)
          rw [List.map_append, List.map_congr_left (l := rst) (fun v hv => mi_v_congr (σ := σ) (cs := cs) hs' (c3 v hv))] at z
          have e1 : h1.length - h0.length = h.length - h0.length + (h1.length - h.length) := by omega
          have e2 : mi_sz h1 - mi_sz h0 = mi_sz h - mi_sz h0 + (mi_sz h1 - mi_sz h) := by omega
          rw [e1, e2] at z
          have e3 : (r1.map (mi_v σ' cs)).toList = r1.toList.map (mi_v σ' cs) := by cases r1 <;> rfl
          rw [e3]
          exact z
        have hPre : ∀ (as : List Value) (U : State), U.heap = H → s.WarmedH U.vm → mi_Pc D cA cs σ as h H.size (as.map (mi_v σ cs)).toArray U := fun as U hU hW => ⟨rfl, by rw [hU], by rw [hU]; exact hP, va_K.moved hW.alike hK, hD.weaken (fun _ _ _ _ => trivial), mi_K_call hKs hS hU hW (by
            intro q hq
            rcases hq with ⟨k, e, hk⟩ | hq
            · exact hD.2 k (q, e) hk
            · exact hA q (Nat.le_trans hS.1 hq))⟩
        have hdr : ∀ v ∈ st.drop Y2.2.2.2.2.2.1, mi_ok h.length v := fun v hv => hst v (List.mem_of_mem_drop hv)
        have hstk : st.map (mi_v σ cs) = (((st.take Y2.2.2.2.2.2.1).reverse.map (mi_v σ cs)).reverse) ++ (st.drop Y2.2.2.2.2.2.1).map (mi_v σ cs) := by
          rw [← List.map_reverse, List.reverse_reverse, ← List.map_append, List.take_append_drop]
        have hlt : ((st.take Y2.2.2.2.2.2.1).reverse.map (mi_v σ cs)).length = Y2.2.2.2.2.2.1 := by simp; omega
        have hRm : ∀ mc ms : Nat, (mi_rm d mc ms).frames + 1 ≤ (mi_rm (d + 1) (h'.length - h0.length) (mi_sz h' - mi_sz h0)).frames ∧ 8 + (Y2.2.2.2.1 + 11) + (mi_rm d mc ms).locals ≤ (mi_rm (d + 1) (h'.length - h0.length) (mi_sz h' - mi_sz h0)).locals := fun mc ms => ⟨Nat.le_refl _, by show 8 + (Y2.2.2.2.1 + 11) + 64 * d ≤ 64 * (d + 1); omega⟩
        have hfix : CallFix p m c X.2.2.2.2.2.2.2 X.2.2.2.1 s args (mi_wd X) (mi_cn X.2.1) := ⟨hx, hb, hml, hown, hts⟩
        rcases hcase with ⟨hk0, hN'⟩ | ⟨hk0, b, rr, ci, fs, q, hdrop, hbat, hq, hqn, hN'⟩
        · subst hk0
          refine REST _ _ hN' (fun mc ms r1 h1 hmc hms hroom hM => ?_)
          have h8' : 2 * (F0 m pc ls (st.map (mi_v σ cs))).monitorRoom + (((st.drop Y2.2.2.2.2.2.1).map (mi_v σ cs)).map fun v => v.category).sum ≤ 8 := lv_room (by rw [mi_catsum hdr]; exact h8)
          cases hn : nest with
          | false => exact va_runS hfix hM ⟨callB_of Y2.2.2.2.2.2.1 hts (mi_goodIn hYok) rfl rfl rfl (tin hYi) (hlk0 hn) hYd (hRm mc ms), tin (hY0 hkY)⟩ ⟨mi_Pc_blind, hPre _⟩ rfl hlt hlen' hstk h8' (hd0 rfl) hroom
          | true => exact va_runSN hfix hM ⟨va_cnB Y2.2.2.2.2.2.1 hts (mi_goodIn hYok) rfl rfl rfl (hlk1 hn) (tin hYi) hYd (hRm mc ms), tin (hY0 hkY), trivial⟩ ⟨mi_Pc_blind, hPre _⟩ rfl hlt hlen' hstk h8' (hd0 rfl) hroom
        · refine REST _ _ hN' (fun mc ms r1 h1 hmc hms hroom hM => ?_)
          rw [hdrop] at hstk
          have h8' : 2 * (F0 m pc ls (st.map (mi_v σ cs))).monitorRoom + ((rr.map (mi_v σ cs)).map fun v => v.category).sum ≤ 8 := lv_room (by
            rw [mi_catsum (fun v hv => hdr v (by rw [hdrop]; exact List.mem_cons_of_mem _ hv))]
            rw [hdrop, List.length_cons] at h8
            omega)
          have hcls : q.1 = Y2.2.2.2.2.2.2.1.cls := hqn.trans hYn.symm
          have hrecv : ∃ cell : Cell, H[σ b]? = some cell ∧ cell.vm.isStatics = false ∧ s.vm.findClass Y2.2.2.2.2.2.2.1.cls = some cell.cls := by
            rw [← hcls]
            exact va_recv hK hP (mi_V_at hq) (mi_w_at hbat)
          have hkd' : kd = 1 ∨ kd = 2 := by omega
          rcases hkd' with rfl | rfl
          · obtain ⟨hi1, hi2⟩ := hY1 hkY
            cases hn : nest with
            | false => exact va_runV hfix hM ⟨callB_of Y2.2.2.2.2.2.1 hts (mi_goodIn hYok) rfl rfl rfl (tin hYi) (hlk0 hn) hYd (hRm mc ms), tin hi1, tin hi2⟩ ⟨mi_Pc_blind, hrecv, hPre _⟩ rfl hlt hlen' hstk h8' (hd1 rfl) hroom
            | true => exact va_runVN hfix hM ⟨va_cnB Y2.2.2.2.2.2.1 hts (mi_goodIn hYok) rfl rfl rfl (hlk1 hn) (tin hYi) hYd (hRm mc ms), tin hi1, tin hi2⟩ ⟨mi_Pc_blind, hrecv, hPre _⟩ rfl hlt hlen' hstk h8' (hd1 rfl) hroom
          · obtain ⟨hi1, hi2, hi3⟩ := hY2 hkY
            have hw3 : mi_wd Y2 = Cond.code Y2.2.2.2.2.2.2.1 Y2.2.2.2.2.2.2.2 Y2.2.2.2.1 none :: mi_Ts := by unfold mi_wd; rw [hi3]
            cases hn : nest with
            | false => exact va_runI hfix hM ⟨callB_of Y2.2.2.2.2.2.1 hts (mi_goodIn hYok) hw3 rfl rfl (tin hYi) (hlk0 hn) hYd (hRm mc ms), hi2, tin hi1⟩ ⟨mi_Pc_blind, hPre _⟩ rfl hlt hlen' hstk h8' (hd2 rfl) hroom
            | true => exact va_runIN hfix hM ⟨va_cnB Y2.2.2.2.2.2.1 hts (mi_goodIn hYok) hw3 rfl rfl (hlk1 hn) (tin hYi) hYd (hRm mc ms), hi2, tin hi1⟩ ⟨mi_Pc_blind, hPre _⟩ rfl hlt hlen' hstk h8' (hd2 rfl) hroom
    unfold mi_op at hop
    split at hop
    · exact lv_iconst hx hb hdg rfl (nx _ _ _ _ (Option.some.inj hop).symm hlv)
    · exact lv_bipush hx hb hdg rfl (nx _ _ _ _ (Option.some.inj hop).symm hlv)
    · exact lv_sipush hx hb hdg rfl (nx _ _ _ _ (Option.some.inj hop).symm hlv)
    · exact lv_null hx hb hdg (nx _ _ _ _ (Option.some.inj hop).symm hlv)
    · obtain ⟨x, hx1, hN'⟩ := mi_iload_inv hop
      exact lv_iload hx hb hdg (ild hx1) (nx _ _ _ _ hN' hlv)
    · obtain ⟨x, hx1, hN'⟩ := mi_iload_inv hop
      exact lv_iload_n hx hb hdg rfl (ild hx1) (nx _ _ _ _ hN' hlv)
    · rcases mi_aload_inv hop with ⟨x, hx1, hN'⟩ | ⟨hx1, hN'⟩
      · exact lv_aload hx hb hdg (hlv.2.2 _ _ hx1) (nx _ _ _ _ hN' hlv)
      · exact lv_aloadN hx hb hdg (hlv.2.2 _ _ hx1) (nx _ _ _ _ hN' hlv)
    · rcases mi_aload_inv hop with ⟨x, hx1, hN'⟩ | ⟨hx1, hN'⟩
      · exact lv_aload_n hx hb hdg rfl (hlv.2.2 _ _ hx1) (nx _ _ _ _ hN' hlv)
      · exact lv_aload_nN hx hb hdg rfl (hlv.2.2 _ _ hx1) (nx _ _ _ _ hN' hlv)
    · obtain ⟨x, rr, rfl, hk, hN'⟩ := mi_istore_inv hop
      exact lv_istore hx hb hdg hhas hk rfl (fun ls' h' => nx _ _ _ _ hN' (mi_lv_st (v := .int x) hL2 h' hk))
    · obtain ⟨x, rr, rfl, hk, hN'⟩ := mi_istore_inv hop
      exact lv_istore_n hx hb hdg rfl hhas hk rfl (fun ls' h' => nx _ _ _ _ hN' (mi_lv_st (v := .int x) hL2 h' hk))
    · obtain ⟨hk, ⟨x, rr, rfl, hN'⟩ | ⟨rr, rfl, hN'⟩⟩ := mi_astore_inv hop
      · exact lv_astore hx hb hdg hhas hk rfl (fun ls' h' => nx _ _ _ _ hN' (mi_lv_st (v := .ref x) hL2 h' hk))
      · exact lv_astoreN hx hb hdg hhas hk rfl (fun ls' h' => nx _ _ _ _ hN' (mi_lv_st (v := .null) hL2 h' hk))
    · obtain ⟨hk, ⟨x, rr, rfl, hN'⟩ | ⟨rr, rfl, hN'⟩⟩ := mi_astore_inv hop
      · exact lv_astore_n hx hb hdg rfl hhas hk rfl (fun ls' h' => nx _ _ _ _ hN' (mi_lv_st (v := .ref x) hL2 h' hk))
      · exact lv_astore_nN hx hb hdg rfl hhas hk rfl (fun ls' h' => nx _ _ _ _ hN' (mi_lv_st (v := .null) hL2 h' hk))
    · obtain ⟨x, hx1, hN'⟩ := mi_iinc_inv hop
      obtain ⟨j, hj⟩ := List.getElem?_of_mem ((mi_ll_mem (σ := σ) (cs := cs)).mpr ⟨.int x, hx1, rfl⟩)
      have hk := (List.getElem?_eq_some_iff.mp hx1).1
      exact lv_iinc hx hb hdg hhas hj rfl hk rfl (fun ls' h' => nx _ _ _ _ hN' (mi_lv_st (v := .int _) hL2 h' hk))
    · obtain ⟨x, y, rr, rfl, hN'⟩ := mi_bin_inv hop
      exact lv_iadd hx hb hdg (nx _ _ _ _ hN' hlv)
    · obtain ⟨x, y, rr, rfl, hN'⟩ := mi_bin_inv hop
      exact lv_isub hx hb hdg (nx _ _ _ _ hN' hlv)
    · obtain ⟨x, y, rr, rfl, hN'⟩ := mi_bin_inv hop
      exact lv_imul hx hb hdg (nx _ _ _ _ hN' hlv)
    · obtain ⟨x, y, rr, rfl, hN'⟩ := mi_bin_inv hop
      exact lv_iand hx hb hdg (nx _ _ _ _ hN' hlv)
    · obtain ⟨x, y, rr, rfl, hN'⟩ := mi_bin_inv hop
      exact lv_ior hx hb hdg (nx _ _ _ _ hN' hlv)
    · obtain ⟨x, y, rr, rfl, hN'⟩ := mi_bin_inv hop
      exact lv_ixor hx hb hdg (nx _ _ _ _ hN' hlv)
    · obtain ⟨x, y, rr, rfl, hN'⟩ := mi_bin_inv hop
      exact lv_ishl hx hb hdg (nx _ _ _ _ hN' hlv)
    · obtain ⟨x, y, rr, rfl, hN'⟩ := mi_bin_inv hop
      exact lv_ishr hx hb hdg (nx _ _ _ _ hN' hlv)
    · obtain ⟨x, y, rr, rfl, hN'⟩ := mi_bin_inv hop
      exact lv_iushr hx hb hdg rfl (nx _ _ _ _ hN' hlv)
    · obtain ⟨x, y, rr, rfl, hne, hN'⟩ := mi_div_inv hop
      exact lv_idiv hx hb hdg hne (nx _ _ _ _ hN' hlv)
    · obtain ⟨x, y, rr, rfl, hne, hN'⟩ := mi_div_inv hop
      exact lv_irem hx hb hdg hne (nx _ _ _ _ hN' hlv)
    · split at hop
      · exact lv_ineg hx hb hdg (nx _ _ _ _ (Option.some.inj hop).symm hlv)
      · cases hop
    · split at hop
      · split at hop
        · exact lv_dup hx hb hdg (mi_cat (hst _ List.mem_cons_self)) (nx _ _ _ _ (Option.some.inj hop).symm hlv)
        · cases hop
      · cases hop
    · split at hop
      · split at hop
        · exact lv_dup2_11 hx hb hdg (mi_cat (hst _ List.mem_cons_self)) (mi_cat (hst _ (List.mem_cons_of_mem _ List.mem_cons_self))) (nx _ _ _ _ (Option.some.inj hop).symm hlv)
        · cases hop
      · cases hop
    · split at hop
      · split at hop
        · exact lv_pop hx hb hdg (mi_cat (hst _ List.mem_cons_self)) (nx _ _ _ _ (Option.some.inj hop).symm hlv)
        · cases hop
      · cases hop
    · obtain ⟨t, ht, hN'⟩ := mi_goto_inv hop
      exact lv_goto hx hb hdg ht (nx _ _ _ _ hN' hlv)
    · obtain ⟨x, rr, rfl, ⟨hh1, t, ht, hN'⟩ | ⟨hh1, hN'⟩⟩ := mi_if1_inv hop
      · exact mi_if1_row hx hb hdg ht hh1 (nx _ _ _ _ hN' hlv)
      · exact mi_if1_not hx hb hdg hh1 (nx _ _ _ _ hN' hlv)
    · obtain ⟨x, y, rr, rfl, ⟨hh1, t, ht, hN'⟩ | ⟨hh1, hN'⟩⟩ := mi_if2_inv hop
      · exact mi_if2_row hx hb hdg ht hh1 (nx _ _ _ _ hN' hlv)
      · exact mi_if2_not hx hb hdg hh1 (nx _ _ _ _ hN' hlv)
    · rcases mi_ifnT_inv hop with ⟨rr, rfl, t, ht, hN'⟩ | ⟨x, rr, rfl, hN'⟩
      · exact lv_ifnullN hx hb hdg ht (nx _ _ _ _ hN' hlv)
      · exact lv_ifnull hx hb hdg (nx _ _ _ _ hN' hlv)
    · rcases mi_ifnF_inv hop with ⟨x, rr, rfl, t, ht, hN'⟩ | ⟨rr, rfl, hN'⟩
      · exact lv_ifnonnull hx hb hdg ht (nx _ _ _ _ hN' hlv)
      · exact lv_ifnonnullN hx hb hdg (nx _ _ _ _ hN' hlv)
    · obtain ⟨x, rr, rfl, ⟨hh1, t, ht, hN'⟩ | ⟨hh1, off, ho, t, ht, hN'⟩⟩ := mi_tsw_inv hop
      · exact lv_tableOut hx hb hdg hh1 ht (nx _ _ _ _ hN' hlv)
      · exact lv_tableIn hx hb hdg (fun z => hh1 (Or.inl z)) (fun z => hh1 (Or.inr z)) ho ht (nx _ _ _ _ hN' hlv)
    · obtain ⟨x, rr, rfl, hp1, t, ht, hN'⟩ := mi_lsw_inv hop
      exact lv_lookup hx hb hdg hp1 rfl ht (nx _ _ _ _ hN' hlv)
    · -- getfield
      obtain ⟨a, rr, ci, k, nest, fs, v, rfl, hlk, ha, hv, hN'⟩ := mi_get_inv hop
      obtain ⟨q, hq, hk, hq1, hq2, hv1, hv2, hv3, hv4⟩ := fld hlk
      have hvv : (fs.map (mi_v σ cs))[k]? = some (mi_v σ cs v) := by rw [List.getElem?_map, hv]; rfl
      have hnext := nx _ _ _ _ hN' hlv
      cases hn : nest with
      | false => exact va_get hx hb hts (fun w hw => List.mem_cons_of_mem _ (hv1 w hw)) hown hK hP a (mi_w_at ha) (mi_V_at hq) k hk (tin (hq2 hn)) (fun x hx => by rw [hv4 k hk] at hx; exact hx) hvv hdg hnext
      | true => exact va_getN hx hb hts (fun w hw => List.mem_cons_of_mem _ (hv1 w hw)) hown hK hP a (mi_w_at ha) (mi_V_at hq) k hk (va_Nw.use rfl (hKs.1 _ (hq1 hn))) (fun x hx => by rw [hv4 k hk] at hx; exact hx) hvv hdg hnext
    · -- putfield
      obtain ⟨v, a, rr, ci, k, nest, fs, rfl, hlk, ha, hkl, hmay, hN'⟩ := mi_put_inv hop
      obtain ⟨q, hq, hk, hq1, hq2, hv1, hv2, hv3, hv4⟩ := fld hlk
      have hset : ∀ {H1 : Heap}, va_P D vwCl ((mi_w cA σ cs h).set a (σ a, .inr (ci, (fs.map (mi_v σ cs)).set k (mi_v σ cs v)))) H1 → va_P D vwCl (mi_w cA σ cs (h.set a (.inl (ci, fs.set k v)))) H1 := by
        intro H1 z
        rw [← mi_w_set]
        show va_P D vwCl ((mi_w cA σ cs h).set a (σ a, .inr (ci, (fs.set k v).map (mi_v σ cs)))) H1
        rw [List.map_set]
        exact z
      have hsetD : va_D A ((mi_w cA σ cs h).set a (σ a, .inr (ci, (fs.map (mi_v σ cs)).set k (mi_v σ cs v)))) → va_D A (mi_w cA σ cs (h.set a (.inl (ci, fs.set k v)))) := by
        intro z
        rw [← mi_w_set]
        show va_D A ((mi_w cA σ cs h).set a (σ a, .inr (ci, (fs.set k v).map (mi_v σ cs))))
        rw [List.map_set]
        exact z
      have hsz1 : mi_szc (.inl (ci, fs.set k v)) = mi_szc (.inl (ci, fs)) := by simp [mi_szc]
      have hnext : ∀ (H1 : Heap) (locs1 : List Loc), va_P D vwCl ((mi_w cA σ cs h).set a (σ a, .inr (ci, (fs.map (mi_v σ cs)).set k (mi_v σ cs v)))) H1 → va_D A ((mi_w cA σ cs h).set a (σ a, .inr (ci, (fs.map (mi_v σ cs)).set k (mi_v σ cs v)))) → va_S A s.heap H1 locs1 → _ := fun H1 locs1 z1 z2 z3 => nxS a _ _ _ _ H1 locs1 hN' ha hsz1 (hset z1) (hsetD z2) z3
      have hl2 : k < (fs.map (mi_v σ cs)).length := by rw [List.length_map]; exact hkl
      unfold mi_may at hmay
      rw [hq] at hmay
      simp only [Bool.and_eq_true, Bool.or_eq_true, beq_iff_eq, decide_eq_true_eq] at hmay
      obtain ⟨hfit, hfin2⟩ := hmay
      obtain ⟨hf1, hf2⟩ := mi_fit_ok (σ := σ) (cs := cs) hfit
      rcases hfin2 with hfin2 | ⟨⟨hkd2, hn⟩, hcq⟩
      · cases hn : nest with
        | false => exact va_put hx hb hts (fun w hw => List.mem_cons_of_mem _ (hv1 w hw)) q.2.2.2 hv2 hv3 hown hK hP hD hS a (mi_w_at ha) (mi_V_at hq) k hk (tin (hq2 hn)) (fun x hx => by rw [hv4 k hk] at hx; exact hx) hfin2 (hv2 k hk) hf1 hf2 hl2 hdg hnext
        | true => exact va_putN hx hb hts (fun w hw => List.mem_cons_of_mem _ (hv1 w hw)) q.2.2.2 hv2 hv3 hown hK hP hD hS a (mi_w_at ha) (mi_V_at hq) k hk (va_Nw.use rfl (hKs.1 _ (hq1 hn))) (fun x hx => by rw [hv4 k hk] at hx; exact hx) hfin2 (hv2 k hk) hf1 hf2 hl2 hdg hnext
      · cases hfq : (q.2.1 k).2.2.2 with
        | true => exact va_putF hx hb hts (fun w hw => List.mem_cons_of_mem _ (hv1 w hw)) q.2.2.2 hv2 hv3 hown hK hP hD hS a (mi_w_at ha) (mi_V_at hq) k hk (tin (hq2 hn)) (fun x hx => by rw [hv4 k hk] at hx; exact hx) hfq (hnm hkd2) ((hv4 k hk).trans hcq) (hv2 k hk) hf1 hf2 hl2 hdg hnext
        | false => exact va_put hx hb hts (fun w hw => List.mem_cons_of_mem _ (hv1 w hw)) q.2.2.2 hv2 hv3 hown hK hP hD hS a (mi_w_at ha) (mi_V_at hq) k hk (tin (hq2 hn)) (fun x hx => by rw [hv4 k hk] at hx; exact hx) hfq (hv2 k hk) hf1 hf2 hl2 hdg hnext
    · -- getstatic
      obtain ⟨j, hlk, hN'⟩ := mi_gets_inv hop
      obtain ⟨q, hq, hw⟩ := mi_alls X.2.1 _ (mi_lookup_mem2 hlk)
      exact va_gets hx hb (hKs.2.2 _ q hq).1 hS hown (tin hw) (fun x hx => hx) hdg (nx _ _ _ _ hN' hlv)
    · -- new
      obtain ⟨ci, q, hlk, hq, hN'⟩ := mi_new_inv hop
      obtain ⟨q', hq', hw1, hw2, hw3⟩ := mi_alln X.2.1 _ (mi_lookup_mem2 hlk)
      have e1 : q' = q := Option.some.inj (hq'.symm.trans hq)
      subst e1
      obtain ⟨hv1, hv2, hv3, hv4⟩ := mi_allV q' (List.mem_of_getElem? hq)
      obtain ⟨rm1, rm2⟩ := room _ _ _ hN'
      have hzc : mi_szc (.inl (ci, (List.range q'.2.2.1).map (fun k => defaultValue (q'.2.2.2 k)))) = q'.2.2.1 := by simp [mi_szc]
      rw [hzc] at rm2
      have hdef : ∀ ty, mi_v (mi_up σ h.length 0) cs (defaultValue ty) = defaultValue ty := by intro ty; cases ty <;> rfl
      refine va_new (fs := ((List.range q'.2.2.1).map (fun k => defaultValue (q'.2.2.2 k)))) hx hb hts (fun w hw => List.mem_cons_of_mem _ (hv1 w hw)) q'.2.2.2 hv2 hown (tin hw1) (tin hw2) (tin hw3) hK hP hD hS hA (mi_V_at hq) ?_ rm1 rm2 hdg (fun q2 H1 hP1 hD1 hS1 => ?_)
      · intro j hj
        simp [vp_V, List.getD_eq_getElem?_getD, hj]
      · have e2 : mi_e cA (mi_up σ h.length q2) cs (.inl (ci, (List.range q'.2.2.1).map (fun k => defaultValue (q'.2.2.2 k)))) = .inr (ci, (List.range q'.2.2.1).map (fun k => defaultValue (q'.2.2.2 k))) := by
          show Sum.inr (ci, List.map (mi_v (mi_up σ h.length q2) cs) _) = _
          rw [List.map_map]
          congr 2
          apply List.map_congr_left
          intro k hk
          show mi_v _ _ (defaultValue _) = defaultValue _
          cases q'.2.2.2 k <;> rfl
        exact nxA _ _ q2 _ H1 _ hN' hst hzc (by rw [e2]; exact hP1) (by rw [e2]; exact hD1) hS1
    · -- newarray int
      obtain ⟨n1, rr, rfl, hn0, hnb, hN'⟩ := mi_newa_inv hop
      obtain ⟨rm1, rm2⟩ := room _ _ _ hN'
      have hzc : mi_szc (.inr (0, .inl (List.replicate n1.toNatClampNeg 0))) = n1.toNatClampNeg := by simp [mi_szc]
      rw [hzc] at rm2
      refine va_newa (atype := .int) (ty := .int) (a0 := (n1.toNatClampNeg, .inl (fun _ => 0))) hx hb (tin mi_acI) rfl hK hP hD hS hA (fun _ => rfl) hn0 rfl (by show n1.toNatClampNeg * 4 ≤ 536870912; omega) rm1 rm2 hdg (fun q2 c2 H1 hK1 hP1 hD1 hS1 => ?_)
      have e0 := mi_arr_eq (t0 := 0) hK rfl hK1
      subst e0
      have e2 : mi_e cA (mi_up σ h.length q2) cs (.inr (0, .inl (List.replicate n1.toNatClampNeg 0))) = .inl (cA 0, n1.toNatClampNeg, .inl (fun _ => 0)) := by
        show Sum.inl (cA 0, (List.replicate n1.toNatClampNeg (0 : Int32)).length, Sum.inl (fun j => (List.replicate n1.toNatClampNeg (0 : Int32)).getD j 0)) = _
        rw [mi_fun_new, List.length_replicate]
      exact nxA _ _ q2 _ H1 _ hN' (fun v hv => hst v (List.mem_cons_of_mem _ hv)) hzc (by rw [e2]; exact hP1) (by rw [e2]; exact hD1) hS1
    · -- newarray boolean
      obtain ⟨n1, rr, rfl, hn0, hnb, hN'⟩ := mi_newa_inv hop
      obtain ⟨rm1, rm2⟩ := room _ _ _ hN'
      have hzc : mi_szc (.inr (1, .inl (List.replicate n1.toNatClampNeg 0))) = n1.toNatClampNeg := by simp [mi_szc]
      rw [hzc] at rm2
      refine va_newa (atype := .boolean) (ty := .boolean) (a0 := (n1.toNatClampNeg, .inl (fun _ => 0))) hx hb (tin mi_acZ) rfl hK hP hD hS hA (fun _ => rfl) hn0 rfl (by show n1.toNatClampNeg * 1 ≤ 536870912; omega) rm1 rm2 hdg (fun q2 c2 H1 hK1 hP1 hD1 hS1 => ?_)
      have e0 := mi_arr_eq (t0 := 1) hK rfl hK1
      subst e0
      have e2 : mi_e cA (mi_up σ h.length q2) cs (.inr (1, .inl (List.replicate n1.toNatClampNeg 0))) = .inl (cA 1, n1.toNatClampNeg, .inl (fun _ => 0)) := by
        show Sum.inl (cA 1, (List.replicate n1.toNatClampNeg (0 : Int32)).length, Sum.inl (fun j => (List.replicate n1.toNatClampNeg (0 : Int32)).getD j 0)) = _
        rw [mi_fun_new, List.length_replicate]
      exact nxA _ _ q2 _ H1 _ hN' (fun v hv => hst v (List.mem_cons_of_mem _ hv)) hzc (by rw [e2]; exact hP1) (by rw [e2]; exact hD1) hS1
    · -- anewarray
      obtain ⟨n1, rr, rfl, hn0, hnb, hlk, hN'⟩ := mi_newq_inv hop
      obtain ⟨q', hq', hw1, hw2, hw3⟩ := mi_alln X.2.1 _ (mi_lookup_mem2 hlk)
      have e1 : q' = (RX1, TX1, 12, tyX1) := (Option.some.inj hq').symm
      subst e1
      obtain ⟨rm1, rm2⟩ := room _ _ _ hN'
      have hzc : mi_szc (.inr (2, .inr (List.replicate n1.toNatClampNeg none))) = n1.toNatClampNeg := by simp [mi_szc]
      rw [hzc] at rm2
      refine va_newq (C := RX1) hx hb hown (tin hw1) hKs.2.1 hK hP hD hS hA hn0 rfl (by omega) rm1 rm2 hdg (fun q2 c2 H1 hK1 hP1 hD1 hS1 => ?_)
      have e0 := mi_arr_eq (t0 := 2) hK rfl hK1
      subst e0
      have e2 : mi_e cA (mi_up σ h.length q2) cs (.inr (2, .inr (List.replicate n1.toNatClampNeg none))) = .inl (cA 2, n1.toNatClampNeg, .inr (.inr (.inr (.inr (fun _ => none))))) := by
        show Sum.inl (cA 2, (List.replicate n1.toNatClampNeg (none : Option Nat)).length, Sum.inr (Sum.inr (Sum.inr (Sum.inr (fun j => ((List.replicate n1.toNatClampNeg (none : Option Nat)).getD j none).map (mi_up σ h.length q2)))))) = _
        rw [mi_fun_newq, List.length_replicate]
      exact nxA _ _ q2 _ H1 _ hN' (fun v hv => hst v (List.mem_cons_of_mem _ hv)) hzc (by rw [e2]; exact hP1) (by rw [e2]; exact hD1) hS1
    · -- arraylength
      obtain ⟨a, rr, xs, rfl, ha, hN'⟩ := mi_alen_inv hop
      exact va_alen hx hb hK hP a 0 (mi_w_at ha) rfl rfl hdg (nx _ _ _ _ hN' hlv)
    · -- iaload
      rcases mi_iald_inv hop with ⟨i, a, rr, xs, x, rfl, ha, hi0, hxi, hN'⟩ | ⟨i, j, rr, q, x, rfl, hq, hi0, hxi, hN'⟩
      · have hil := (List.getElem?_eq_some_iff.mp hxi).1
        have hin : vp_in i xs.length := fun z => by rcases z with z | z; exact hi0 z; omega
        have hnext := nx _ _ _ _ hN' hlv
        have e1 : xs.getD i.toNatClampNeg 0 = x := by rw [List.getD_eq_getElem?_getD, hxi]; rfl
        refine va_iald hx hb hK hP a 0 (mi_w_at ha) rfl hin hdg ?_
        show W p l e _ s m args below meth c H locs _ _ _ (F0 m (pc + 1) ls (.int (xs.getD i.toNatClampNeg 0) :: _))
        rw [e1]
        exact hnext
      · have hil := (List.getElem?_eq_some_iff.mp hxi).1
        have hin : vp_in i q.2.length := fun z => by rcases z with z | z; exact hi0 z; omega
        refine va_ti (v := .int x) hx hb (hKs.2.2 _ q hq).2 hS hin ?_ hdg (nx _ _ _ _ hN' hlv)
        rw [List.getD_eq_getElem?_getD, hxi]; rfl
    · -- iastore
      obtain ⟨x, i, a, rr, xs, rfl, ha, hin, hN'⟩ := mi_iast_inv hop
      have hil : i.toNatClampNeg < xs.length := Nat.not_le.mp fun z => hin (Or.inr z)
      have e1 : (mi_w cA σ cs h).set a (σ a, .inl (cA 0, xs.length, .inl (upd (fun j => xs.getD j 0) i.toNatClampNeg x))) = mi_w cA σ cs (h.set a (.inr (0, .inl (xs.set i.toNatClampNeg x)))) := by
        rw [← mi_w_set, mi_fun_set hil]
        show _ = (mi_w cA σ cs h).set a (σ a, .inl (cA 0, (xs.set i.toNatClampNeg x).length, .inl (fun j => (xs.set i.toNatClampNeg x).getD j 0)))
        rw [List.length_set]
      exact va_iast hx hb hK hP hD hS a 0 (mi_w_at ha) rfl hin hdg (fun H1 locs1 z1 z2 z3 => nxS a _ _ _ _ H1 locs1 hN' ha (by simp [mi_szc]) (e1 ▸ z1) (e1 ▸ z2) z3)
    · -- baload
      obtain ⟨i, a, rr, xs, x, rfl, ha, hi0, hxi, hN'⟩ := mi_bald_inv hop
      have hil := (List.getElem?_eq_some_iff.mp hxi).1
      have hin : vp_in i xs.length := fun z => by rcases z with z | z; exact hi0 z; omega
      have hnext := nx _ _ _ _ hN' hlv
      have e1 : xs.getD i.toNatClampNeg 0 = x := by rw [List.getD_eq_getElem?_getD, hxi]; rfl
      refine va_zald hx hb hK hP a 1 (mi_w_at ha) rfl hin hdg ?_
      show W p l e _ s m args below meth c H locs _ _ _ (F0 m (pc + 1) ls (.int (xs.getD i.toNatClampNeg 0) :: _))
      rw [e1]
      exact hnext
    · -- bastore
      obtain ⟨x, i, a, rr, xs, rfl, ha, hin, hN'⟩ := mi_bast_inv hop
      have hil : i.toNatClampNeg < xs.length := Nat.not_le.mp fun z => hin (Or.inr z)
      have e1 : (mi_w cA σ cs h).set a (σ a, .inl (cA 1, xs.length, .inl (upd (fun j => xs.getD j 0) i.toNatClampNeg (vp_nar .boolean x)))) = mi_w cA σ cs (h.set a (.inr (1, .inl (xs.set i.toNatClampNeg (x &&& 1))))) := by
        rw [← mi_w_set, mi_fun_set hil]
        show _ = (mi_w cA σ cs h).set a (σ a, .inl (cA 1, (xs.set i.toNatClampNeg (x &&& 1)).length, .inl (fun j => (xs.set i.toNatClampNeg (x &&& 1)).getD j 0)))
        rw [List.length_set]
        rfl
      exact va_zast hx hb hK hP hD hS a 1 (mi_w_at ha) rfl hin hdg (fun H1 locs1 z1 z2 z3 => nxS a _ _ _ _ H1 locs1 hN' ha (by simp [mi_szc]) (e1 ▸ z1) (e1 ▸ z2) z3)
    · -- aaload
      obtain ⟨i, a, rr, xs, rfl, ha, hi0, hcs⟩ := mi_aald_inv hop
      have hin : i.toNatClampNeg < xs.length := by
        rcases hcs with ⟨x, hxi, -⟩ | ⟨hxi, -⟩ <;> exact (List.getElem?_eq_some_iff.mp hxi).1
      have hin' : vp_in i xs.length := fun z => by rcases z with z | z; exact hi0 z; omega
      refine va_aldq (C := RX1) hx hb hK hP a 2 (mi_w_at ha) rfl hin' hdg ?_
      show W p l e _ s m args below meth c H locs _ _ _ (F0 m (pc + 1) ls (va_rf ((xs.getD i.toNatClampNeg none).map σ) :: _))
      rcases hcs with ⟨x, hxi, hN'⟩ | ⟨hxi, hN'⟩
      · have hnext := nx _ _ _ _ hN' hlv
        rw [List.getD_eq_getElem?_getD, hxi]
        exact hnext
      · have hnext := nx _ _ _ _ hN' hlv
        rw [List.getD_eq_getElem?_getD, hxi]
        exact hnext
    · -- aastore
      obtain ⟨v, i, a, rr, xs, fs, rfl, ha, hin, hvv, hN'⟩ := mi_aast_inv hop
      have hil : i.toNatClampNeg < xs.length := Nat.not_le.mp fun z => hin (Or.inr z)
      have e1 : (mi_w cA σ cs h).set a (σ a, .inl (cA 2, xs.length, .inr (.inr (.inr (.inr (va_up (fun j => (xs.getD j none).map σ) i.toNatClampNeg (some (σ v)))))))) = mi_w cA σ cs (h.set a (.inr (2, .inr (xs.set i.toNatClampNeg (some v))))) := by
        rw [← mi_w_set, mi_fun_setq hil]
        show _ = (mi_w cA σ cs h).set a (σ a, .inl (cA 2, (xs.set i.toNatClampNeg (some v)).length, .inr (.inr (.inr (.inr (fun j => ((xs.set i.toNatClampNeg (some v)).getD j none).map σ))))))
        rw [List.length_set]
      exact va_astq (r := (RX1, TX1, 12)) hx hb hK hP hD hS a 2 v 1 (mi_w_at ha) rfl (mi_w_at hvv) rfl hin hdg (fun H1 locs1 z1 z2 z3 => nxS a _ _ _ _ H1 locs1 hN' ha (by simp [mi_szc]) (e1 ▸ z1) (e1 ▸ z2) z3)
    · exact CALL hop (fun _ => hdg) (fun z => absurd z (by decide)) (fun z => absurd z (by decide)) (by decide)
    · exact CALL hop (fun z => absurd z (by decide)) (fun _ => hdg) (fun z => absurd z (by decide)) (by decide)
    · exact CALL hop (fun z => absurd z (by decide)) (fun z => absurd z (by decide)) (fun _ => hdg) (by decide)
    · obtain ⟨ty, v, hrt, rfl, hnar, hN'⟩ := mi_ret_inv hop
      subst hN'
      obtain ⟨rfl, rfl⟩ := hfin
      exact W.zret hx hb (hr.trans hrt) hnar (fun t ht hW => ⟨⟨σ, hσ, rfl, by rw [ht]; exact hP, va_K.moved hW.alike hK, by rw [hAe]; exact hD⟩, by rw [hAe]; exact hS.F ht⟩) hS.2.2 hdg hlocks
    · obtain ⟨C, v, hrt, rfl, hvv, hN'⟩ := mi_aret_inv hop
      subst hN'
      obtain ⟨rfl, rfl⟩ := hfin
      refine W.aret (v := mi_v σ cs v) hx hb (hr.trans hrt) (Or.inl ⟨_, rfl⟩) ?_ (fun t ht hW => ⟨⟨σ, hσ, rfl, by rw [ht]; exact hP, va_K.moved hW.alike hK, by rw [hAe]; exact hD⟩, by rw [hAe]; exact hS.F ht⟩) hS.2.2 hdg hlocks
      rcases hvv with rfl | ⟨a, rfl⟩
      · exact Or.inl rfl
      · exact Or.inr ⟨_, rfl⟩
    · obtain ⟨hrt, rfl, hN'⟩ := mi_vret_inv hop
      subst hN'
      obtain ⟨rfl, rfl⟩ := hfin
      exact W.vret hx hb (hr.trans hrt) (fun t ht hW => ⟨⟨σ, hσ, rfl, by rw [ht]; exact hP, va_K.moved hW.alike hK, by rw [hAe]; exact hD⟩, by rw [hAe]; exact hS.F ht⟩) hS.2.2 hdg hlocks
    · cases hop
/-- what is true of a run is true of the method -/
theorem mi_sound {l : Launch} {D : va_G} {cA : Nat → ClassId} {cs : Nat → Nat} : ∀ d : Nat, mi_IH l D cA cs d := by
  intro d
  induction d with
  | zero => intro k as h r h' q; exact absurd q id
  | succ d IH =>
    intro k as h r h' q has hh X hX σ sz
    obtain ⟨X', n, hX', hl, hit⟩ := q
    have e1 : X' = X := Option.some.inj (hX'.symm.trans hX)
    subst e1
    have hXok := mi_all X' (List.mem_of_getElem? hX)
    refine Met.ofW (cc := X'.2.2.2.2.2.2.2) (maxL := X'.2.2.2.1) (ret := X'.2.2.1) hXok.2.2.1 rfl ?_
    intro p e s m args below meth c s₁ B hml hv
    obtain ⟨rfl, hsz, hP, hK, hD0, hKs⟩ := hv
    have hts := atoms_spec (ws := mi_wd X') B.pre
    have hown : s.vm.findClass X'.2.2.2.2.2.2.1.cls = some m.cls := findClass_of_methodNamed B.named
    have hin : meth.name = X'.2.2.2.2.2.2.1.name := (name_of_methodNamed B.named B.method).1
    subst hsz
    have hD := hD0.self (sz := s.heap.size)
    have hC : mi_Cx p s m (as.map (mi_v σ cs)).toArray meth c X' D cA cs (va_A (mi_w cA σ cs h) s.heap.size) := ⟨B.exec, B.bytes, hml, B.returns, hts, by rw [← hXok.2.2.2.2.1]; exact hown, B.notSynchronized, fun hk => hin.trans (hXok.2.2.2.2.2.2.2.2.1 hk).2.1, hK, hKs⟩
    have hok := mi_okF_en hl has hh
    have hnc : ∀ v ∈ as.map (mi_v σ cs), v.category = 1 := by
      intro v hv
      obtain ⟨w, hw, rfl⟩ := List.mem_map.mp hv
      exact mi_cat (has w hw)
    rw [entry_eq m _ hnc]
    have hw := mi_walk (e := e) (below := below) IH hXok rfl hC n 0 (mi_en X' as h).2.1 [] h r h' hit hok (Nat.le_refl _) (Nat.le_refl _) σ s.heap [] (((as.map (mi_v σ cs)).map Slot.val ++ List.replicate (X'.2.2.2.1 - (as.map (mi_v σ cs)).length) Slot.unset).toArray) (fun _ _ => rfl) hP hD va_S.rf ?_
    · rw [Nat.sub_self, Nat.sub_self] at hw
      exact hw
    · refine ⟨?_, ?_, ?_⟩
      · simp [mi_en]
      · refine ⟨fun i v hi hc => ?_, fun i hi => ?_⟩
        · rw [List.getElem?_toArray] at hi
          rcases List.mem_append.mp (List.mem_of_getElem? hi) with z | z
          · obtain ⟨w, hw, hz⟩ := List.mem_map.mp z
            cases hz
            rw [hnc _ hw] at hc
            cases hc
          · have := List.eq_of_mem_replicate z
            cases this
        · rw [List.getElem?_toArray] at hi
          rcases List.mem_append.mp (List.mem_of_getElem? hi) with z | z
          · obtain ⟨w, hw, hz⟩ := List.mem_map.mp z
            cases hz
          · have := List.eq_of_mem_replicate z
            cases this
      · intro i v hi
        rw [List.getElem?_toArray]
        have hi : (as.map some ++ List.replicate (X'.2.2.2.1 - as.length) none)[i]? = some (some v) := hi
        by_cases hl2 : i < as.length
        · rw [List.getElem?_append_left (by simpa using hl2)] at hi ⊢
          rw [List.getElem?_map] at hi
          rw [List.getElem?_map, List.getElem?_map]
          cases ha : as[i]? with
          | none => rw [ha] at hi; cases hi
          | some w => rw [ha] at hi; cases hi; rfl
        · rw [List.getElem?_append_right (by simp; omega)] at hi
          exact absurd (List.eq_of_mem_replicate (List.mem_of_getElem? hi)) (by simp)
