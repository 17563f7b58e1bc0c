/-! THE MINI MACHINE IS THE MACHINE: a run of the one is a contract of the other -/
def mi_v (σ cs : Nat → Nat) : Value → Value
  | .ref k => .ref (σ k)
  | .retAddr j => .ref (cs j)
  | v => v
def mi_e (cA : Nat → ClassId) (σ cs : Nat → Nat) : mi_C → va_E
  | .inl (ci, fs) => .inr (ci, fs.map (mi_v σ cs))
  | .inr (t, .inl xs) => .inl (cA t, xs.length, .inl (fun j => xs.getD j 0))
  | .inr (t, .inr rs) => .inl (cA t, rs.length, .inr (.inr (.inr (.inr (fun j => (rs.getD j none).map σ)))))
def mi_w (cA : Nat → ClassId) (σ cs : Nat → Nat) (h : mi_H) : va_W := h.mapIdx (fun k c => (σ k, mi_e cA σ cs c))
def mi_up (σ : Nat → Nat) (n q : Nat) : Nat → Nat := fun k => if k = n then q else σ k
theorem mi_w_get {cA : Nat → ClassId} {σ cs : Nat → Nat} {h : mi_H} {k : Nat} : (mi_w cA σ cs h)[k]? = (h[k]?).map (fun c => (σ k, mi_e cA σ cs c)) := by simp [mi_w, List.getElem?_mapIdx]
theorem mi_w_at {cA : Nat → ClassId} {σ cs : Nat → Nat} {h : mi_H} {k : Nat} {c : mi_C} (e : h[k]? = some c) : (mi_w cA σ cs h)[k]? = some (σ k, mi_e cA σ cs c) := by rw [mi_w_get, e]; rfl
theorem mi_w_set {cA : Nat → ClassId} {σ cs : Nat → Nat} {h : mi_H} {k : Nat} {c : mi_C} : (mi_w cA σ cs h).set k (σ k, mi_e cA σ cs c) = mi_w cA σ cs (h.set k c) := by
  apply List.ext_getElem?
  intro j
  rw [List.getElem?_set, mi_w_get, mi_w_get, List.getElem?_set]
  have hl : (mi_w cA σ cs h).length = h.length := by simp [mi_w]
  rw [hl]
  split
  · rename_i q; subst q
    split <;> rfl
  · rfl
theorem mi_v_congr {σ σ' cs : Nat → Nat} {n : Nat} (hs : ∀ k, k < n → σ' k = σ k) {v : Value} (h : mi_ok n v) : mi_v σ' cs v = mi_v σ cs v := by
  cases v <;> first | rfl | (show Value.ref _ = Value.ref _; rw [hs _ h])
theorem mi_e_congr {cA : Nat → ClassId} {σ σ' cs : Nat → Nat} {n : Nat} (hs : ∀ k, k < n → σ' k = σ k) {c : mi_C} (h : mi_okc n c) : mi_e cA σ' cs c = mi_e cA σ cs c := by
  obtain ⟨ci, fs⟩ | ⟨t, xs | rs⟩ := c
  · show Sum.inr (ci, fs.map (mi_v σ' cs)) = Sum.inr (ci, fs.map (mi_v σ cs))
    rw [List.map_congr_left (fun v hv => mi_v_congr hs (h v hv))]
  · rfl
  · show Sum.inl (cA t, rs.length, Sum.inr (Sum.inr (Sum.inr (Sum.inr (fun j => (rs.getD j none).map σ'))))) = Sum.inl (cA t, rs.length, Sum.inr (Sum.inr (Sum.inr (Sum.inr (fun j => (rs.getD j none).map σ)))))
    congr 7
    funext j
    cases hj : rs.getD j none with
    | none => rfl
    | some k =>
      have hk : some k ∈ rs := by
        rw [List.getD_eq_getElem?_getD] at hj
        cases hz : rs[j]? with
        | none => rw [hz] at hj; cases hj
        | some w => rw [hz] at hj; rw [show w = some k from hj] at hz; exact List.mem_of_getElem? hz
      simp [hs k (h k hk)]
theorem mi_w_congr {cA : Nat → ClassId} {σ σ' cs : Nat → Nat} {h : mi_H} (hs : ∀ k, k < h.length → σ' k = σ k) (hh : mi_okh h.length h) : mi_w cA σ' cs h = mi_w cA σ cs h := by
  apply List.ext_getElem?
  intro k
  rw [mi_w_get, mi_w_get]
  cases hk : h[k]? with
  | none => rfl
  | some c => simp [hs k (List.getElem?_eq_some_iff.mp hk).1, mi_e_congr hs (mi_okh_get hh hk)]
theorem mi_up_lt {σ : Nat → Nat} {n q : Nat} : ∀ k, k < n → mi_up σ n q k = σ k := fun k hk => by simp [mi_up, Nat.ne_of_lt hk]
theorem mi_w_push {cA : Nat → ClassId} {σ cs : Nat → Nat} {h : mi_H} {c : mi_C} {q : Nat} (hh : mi_okh h.length h) : mi_w cA σ cs h ++ [(q, mi_e cA (mi_up σ h.length q) cs c)] = mi_w cA (mi_up σ h.length q) cs (h ++ [c]) := by
  rw [← mi_w_congr (σ' := mi_up σ h.length q) mi_up_lt hh]
  simp [mi_w, List.mapIdx_append, mi_up]
/-- the three kinds of arrays -/
def mi_ty (cA : Nat → ClassId) : List (ClassId × FieldType) := [(cA 0, .int), (cA 1, .boolean), (cA 2, .object RX1)]
/-- what of the machine every method is told: the nest mates' links, the arrays over Device, the constant static arrays -/
def mi_K (cs : Nat → Nat) (A : Nat → Prop) (U : State) : Prop := (∀ w ∈ mi_nest, va_Nw w U) ∧ va_AO RX1 U ∧ ∀ (j : Nat) (q : String × List Int32), mi_Sv[j]? = some q → va_Z RX2 q.1 "[I" (.ref (cs j)) A U U.heap ∧ va_T .int (cs j) q.2.length (fun i => .int (q.2.getD i 0)) A U U.heap
theorem mi_nest_warm {s U : State} (hW : s.WarmedH U.vm) {w : Cond} (hw : w ∈ mi_nest) (h : va_Nw w s) : va_Nw w U := by
  have hk := (List.mem_filter.mp hw).2
  unfold mi_isN at hk
  split at hk
  · exact va_Nw.warmF hW h
  · exact va_Nw.warmM hW h
  · cases hk
theorem mi_K_call {cs : Nat → Nat} {A A' : Nat → Prop} {s U : State} {H : Heap} {locs : List Loc} (h : mi_K cs A s) (hS : va_S A s.heap H locs) (hU : U.heap = H) (hW : s.WarmedH U.vm) (hA : ∀ q, A' q → A q) : mi_K cs A' U := by
  obtain ⟨h1, h2, h3⟩ := h
  refine ⟨fun w hw => mi_nest_warm hW hw (h1 w hw), h2.moved hW.alike, fun j q hq => ?_⟩
  obtain ⟨a, b⟩ := h3 j q hq
  rw [hU]
  exact ⟨((a.moved hW.alike).kept hS.2.1).narrow hA, ((b.moved hW.alike).kept hS.2.1).narrow hA⟩
theorem mi_nest_same {u U : State} (hvm : u.vm = U.vm) {w : Cond} (hw : w ∈ mi_nest) (h : va_Nw w u) : va_Nw w U := by
  have hk := (List.mem_filter.mp hw).2
  unfold mi_isN at hk
  split at hk
  · exact va_Nw.same rfl hvm h
  · exact va_Nw.same rfl hvm h
  · cases hk
theorem mi_K_calling {cs : Nat → Nat} {A : Nat → Prop} {U : State} {g : JFrame} {mk : MethodId} {a : Array Value} (h : mi_K cs A U) : mi_K cs A (U.calling g mk a) := by
  obtain ⟨h1, h2, h3⟩ := h
  refine ⟨fun w hw => mi_nest_same (u := U) (U := U.calling g mk a) rfl hw (h1 w hw), h2.moved (u := U) (U := U.calling g mk a) (Vm.Alike.refl U.vm), fun j q hq => ?_⟩
  obtain ⟨b, c⟩ := h3 j q hq
  exact ⟨va_Z.moved (u := U) (U := U.calling g mk a) (Vm.Alike.refl U.vm) b, va_T.moved (u := U) (U := U.calling g mk a) (Vm.Alike.refl U.vm) c⟩
def mi_rm (d mc ms : Nat) : Room := { frames := d, cells := mc, slots := ms, locals := 64 * d }
def mi_wd (X : mi_M) : List Cond := Cond.code X.2.2.2.2.2.2.1 X.2.2.2.2.2.2.2 X.2.2.2.1 X.2.2.1 :: mi_Ts
def mi_B (D : va_G) (cA : Nat → ClassId) (cs σ : Nat → Nat) (h : mi_H) (sz : Nat) (U : State) : Prop := U.heap.size = sz ∧ va_P D vwCl (mi_w cA σ cs h) U.heap ∧ va_K D vwCl (mi_ty cA) U ∧ va_D (fun _ => True) (mi_w cA σ cs h) ∧ mi_K cs (va_A (mi_w cA σ cs h) sz) U
def mi_Pc (D : va_G) (cA : Nat → ClassId) (cs σ : Nat → Nat) (as : List Value) (h : mi_H) (sz : Nat) : Array Value → State → Prop := va_Pc (as.map (mi_v σ cs)) (mi_B D cA cs σ h sz)
def mi_Qc (D : va_G) (cA : Nat → ClassId) (cs σ : Nat → Nat) (h : mi_H) (sz : Nat) (r : Option Value) (h' : mi_H) : Array Value → State → Outcome → State → Prop := fun _ st oc t =>
  (∃ σ' : Nat → Nat, (∀ k, k < h.length → σ' k = σ k) ∧ oc = .returned (r.map (mi_v σ' cs)) ∧ va_P D vwCl (mi_w cA σ' cs h') t.heap ∧ va_K D vwCl (mi_ty cA) t ∧ va_D (va_A (mi_w cA σ cs h) sz) (mi_w cA σ' cs h')) ∧ va_F (va_A (mi_w cA σ cs h) sz) st t
theorem mi_Pc_blind {D : va_G} {cA : Nat → ClassId} {cs σ : Nat → Nat} {as : List Value} {h : mi_H} {sz : Nat} : FrameBlind (mi_Pc D cA cs σ as h sz) := by
  intro a U g mk q
  obtain ⟨q0, q1, qP, qK, qD, qk⟩ := q
  exact ⟨q0, q1, qP, va_K.moved (u := U) (U := U.calling g mk a) (Vm.Alike.refl U.vm) qK, qD, mi_K_calling qk⟩
/-- the locals -/
def mi_ll (σ cs : Nat → Nat) (L : List (Option Value)) : List (Nat × Value) := (L.zipIdx).filterMap (fun q => q.1.map (fun v => (q.2, mi_v σ cs v)))
def mi_lv (σ cs : Nat → Nat) (ls : Array Slot) (L : List (Option Value)) : Prop := ls.size = L.length ∧ lv_wf ls ∧ ∀ (i : Nat) (v : Value), L[i]? = some (some v) → ls[i]? = some (Slot.val (mi_v σ cs v))
theorem mi_ll_mem {σ cs : Nat → Nat} {L : List (Option Value)} {i : Nat} {w : Value} : (i, w) ∈ mi_ll σ cs L ↔ ∃ v, L[i]? = some (some v) ∧ w = mi_v σ cs v := by
  unfold mi_ll
  rw [List.mem_filterMap]
  constructor
  · rintro ⟨⟨o, j⟩, hq, e⟩
    have hq := List.mem_zipIdx_iff_getElem?.mp hq
    dsimp only at hq e
    cases o with
    | none => cases e
    | some v =>
      cases e
      exact ⟨v, hq, rfl⟩
  · rintro ⟨v, hv, rfl⟩
    exact ⟨(some v, i), List.mem_zipIdx_iff_getElem?.mpr hv, rfl⟩
theorem mi_lv_has {σ cs : Nat → Nat} {ls : Array Slot} {L : List (Option Value)} (h : mi_lv σ cs ls L) : lv_has ls L.length (mi_ll σ cs L) := by
  obtain ⟨h1, h2, h3⟩ := h
  refine ⟨h1, h2, fun q hq => ?_⟩
  obtain ⟨i, w⟩ := q
  obtain ⟨v, hv, rfl⟩ := mi_ll_mem.mp hq
  exact h3 i v hv
theorem mi_cat {n : Nat} {σ cs : Nat → Nat} {v : Value} (h : mi_ok n v) : (mi_v σ cs v).category = 1 := by
  cases v <;> first | rfl | exact absurd h id
theorem mi_lv_st {n : Nat} {σ cs : Nat → Nat} {ls' : Array Slot} {L : List (Option Value)} {i : Nat} {v : Value} (hL : ∀ v, some v ∈ L → mi_ok n v)
    (h : lv_has ls' L.length ((i, mi_v σ cs v) :: (mi_ll σ cs L).filter (fun q => !(q.1 == i) && !(q.1 + 1 == i && q.2.category == 2)))) (hi : i < L.length) : mi_lv σ cs ls' (L.set i (some v)) := by
  obtain ⟨h1, h2, h3⟩ := h
  refine ⟨by rw [List.length_set]; exact h1, h2, fun j w hj => ?_⟩
  by_cases q : i = j
  · subst q
    rw [List.getElem?_set_self hi] at hj
    cases hj
    exact h3 _ List.mem_cons_self
  · rw [List.getElem?_set_ne q] at hj
    have hm : (j, mi_v σ cs w) ∈ mi_ll σ cs L := mi_ll_mem.mpr ⟨w, hj, rfl⟩
    refine h3 (j, mi_v σ cs w) (List.mem_cons_of_mem _ (List.mem_filter.mpr ⟨hm, ?_⟩))
    have hc := mi_cat (σ := σ) (cs := cs) (hL w (List.mem_of_getElem? hj))
    simp only [hc]
    simp
    exact fun z => q z.symm
theorem mi_lv_up {n : Nat} {σ σ' cs : Nat → Nat} {ls : Array Slot} {L : List (Option Value)} (hs : ∀ k, k < n → σ' k = σ k) (hL : ∀ v, some v ∈ L → mi_ok n v) (h : mi_lv σ cs ls L) : mi_lv σ' cs ls L := by
  obtain ⟨h1, h2, h3⟩ := h
  exact ⟨h1, h2, fun i v hv => by rw [mi_v_congr hs (hL v (List.mem_of_getElem? hv))]; exact h3 i v hv⟩
theorem mi_lookup_mem2 {α : Type} {t : List (Nat × α)} {k : Nat} {x : α} (h : t.lookup k = some x) : (k, x) ∈ t := by
  induction t with
  | nil => cases h
  | cons a r ih =>
    obtain ⟨j, v⟩ := a
    rw [List.lookup_cons] at h
    by_cases e : k = j
    · subst e
      simp at h
      subst h
      exact List.mem_cons_self
    · have hb : (k == j) = false := by simpa using e
      rw [hb] at h
      exact List.mem_cons_of_mem _ (ih h)
theorem mi_V_at {ci : Nat} {q : String × u_T × Nat × (Nat → FieldType)} (h : mi_V[ci]? = some q) : vwCl[ci]? = some (q.1, q.2.1, q.2.2.1) := by
  rw [← mi_V_cl, List.getElem?_map, h]; rfl
theorem mi_fit_ok {σ cs : Nat → Nat} {ty : FieldType} {v : Value} (h : mi_fit ty v = true) : narrow ty (mi_v σ cs v) = mi_v σ cs v ∧ fits ty (mi_v σ cs v) = true := by
  cases ty <;> cases v <;> first | (exact ⟨rfl, rfl⟩) | (simp [mi_fit] at h)
