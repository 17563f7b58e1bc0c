theorem mi_okN_next {nL pc : Nat} {L L' : List (Option Value)} {st : List Value} {h : mi_H} (hl : L'.length = nL) (hL : ∀ v, some v ∈ L' → mi_ok h.length v) (hs : ∀ v ∈ st, mi_ok h.length v) (hh : mi_okh h.length h) : mi_okN nL h (.inl (pc, L', st, h)) := ⟨⟨hl, hL, hs, hh⟩, Nat.le_refl _, Nat.le_refl _⟩
theorem mi_okN_set {nL pc a : Nat} {L' : List (Option Value)} {st : List Value} {h : mi_H} {c0 c : mi_C} (hl : L'.length = nL) (hL : ∀ v, some v ∈ L' → mi_ok h.length v) (hs : ∀ v ∈ st, mi_ok h.length v) (hh : mi_okh h.length h) (ha : h[a]? = some c0) (hc : mi_okc h.length c) (hz : mi_szc c = mi_szc c0) : mi_okN nL h (.inl (pc, L', st, h.set a c)) := by
  refine ⟨⟨hl, ?_, ?_, ?_⟩, ?_, ?_⟩
  · intro v hv; simp only [List.length_set]; exact hL v hv
  · intro v hv; simp only [List.length_set]; exact hs v hv
  · simp only [List.length_set]; exact mi_okh_set hh hc
  · simp only [List.length_set]; exact Nat.le_refl _
  · exact Nat.le_of_eq (mi_sz_set ha hz).symm
theorem mi_okN_push {nL pc : Nat} {L' : List (Option Value)} {st : List Value} {h : mi_H} {c : mi_C} (hl : L'.length = nL) (hL : ∀ v, some v ∈ L' → mi_ok h.length v) (hs : ∀ v ∈ st, mi_ok h.length v) (hh : mi_okh h.length h) (hc : mi_okc h.length c) : mi_okN nL h (.inl (pc, L', .ref h.length :: st, h ++ [c])) := by
  have hn : (h ++ [c]).length = h.length + 1 := by simp
  refine ⟨⟨hl, ?_, ?_, ?_⟩, ?_, ?_⟩
  · intro v hv; simp only [hn]; exact mi_ok_mono (Nat.le_succ _) (hL v hv)
  · simp only [hn]
    exact List.forall_mem_cons.mpr ⟨Nat.lt_succ_self _, fun v hv => mi_ok_mono (Nat.le_succ _) (hs v hv)⟩
  · simp only [hn]
    intro x hx
    rcases List.mem_append.mp hx with q | q
    · exact mi_okc_mono (Nat.le_succ _) (hh x q)
    · rw [List.mem_singleton.mp q]; exact mi_okc_mono (Nat.le_succ _) hc
  · simp only [hn]; exact Nat.le_succ _
  · show mi_sz h ≤ mi_sz (h ++ [c]); rw [mi_sz_push]; exact Nat.le_add_right _ _
theorem mi_ok_default (n : Nat) (ty : FieldType) (h : mi_fit ty (defaultValue ty) = true) : mi_ok n (defaultValue ty) := by
  cases ty <;> first | trivial | (simp [mi_fit, defaultValue] at h)
theorem mi_V_fit : ∀ q ∈ mi_V, ∀ k, k < q.2.2.1 → mi_fit (q.2.2.2 k) (defaultValue (q.2.2.2 k)) = true := by
  have e : mi_V.all (fun q => (List.range q.2.2.1).all (fun k => mi_fit (q.2.2.2 k) (defaultValue (q.2.2.2 k)))) = true := by decide +kernel
  intro q hq k hk
  exact List.all_eq_true.mp (List.all_eq_true.mp e q hq) k (List.mem_range.mpr hk)
set_option maxHeartbeats 4000000 in
theorem mi_op_ok {X : mi_M} {i : Instr} {n nL pc : Nat} {ls : List (Option Value)} {st : List Value} {h : mi_H} {N : mi_N} (e : mi_op X i n pc ls st h = some N) (hF : mi_okF nL (pc, ls, st, h)) : mi_okN nL h N := by
  obtain ⟨h1, h2, h3, h4⟩ := hF
  dsimp only at h1 h2 h3 h4
  have hint : ∀ {x : Int32} {r : List Value}, (∀ v ∈ r, mi_ok h.length v) → ∀ v ∈ Value.int x :: r, mi_ok h.length v := fun hr => List.forall_mem_cons.mpr ⟨trivial, hr⟩
  have t1 : ∀ {v : Value} {r : List Value}, (∀ w ∈ v :: r, mi_ok h.length w) → ∀ w ∈ r, mi_ok h.length w := fun hr => (List.forall_mem_cons.mp hr).2
  have t0 : ∀ {v : Value} {r : List Value}, (∀ w ∈ v :: r, mi_ok h.length w) → mi_ok h.length v := fun hr => (List.forall_mem_cons.mp hr).1
  have bin : ∀ {f : Int32 → Int32 → Int32}, mi_bin f pc ls st h = some N → mi_okN nL h N := fun e => by
    obtain ⟨x, y, r, rfl, rfl⟩ := mi_bin_inv e
    exact mi_okN_next h1 h2 (hint (t1 (t1 h3))) h4 (L := ls)
  have div : ∀ {f : Int32 → Int32 → Int32}, mi_div f pc ls st h = some N → mi_okN nL h N := fun e => by
    obtain ⟨x, y, r, rfl, -, rfl⟩ := mi_div_inv e
    exact mi_okN_next h1 h2 (hint (t1 (t1 h3))) h4 (L := ls)
  have ild : ∀ {k m : Nat}, mi_iload k m pc ls st h = some N → mi_okN nL h N := fun e => by
    obtain ⟨x, -, rfl⟩ := mi_iload_inv e
    exact mi_okN_next h1 h2 (hint h3) h4 (L := ls)
  have ald : ∀ {k m : Nat}, mi_aload k m pc ls st h = some N → mi_okN nL h N := fun e => by
    rcases mi_aload_inv e with ⟨x, q, rfl⟩ | ⟨q, rfl⟩
    · exact mi_okN_next h1 h2 (List.forall_mem_cons.mpr ⟨h2 _ (List.mem_of_getElem? q), h3⟩) h4 (L := ls)
    · exact mi_okN_next h1 h2 (List.forall_mem_cons.mpr ⟨trivial, h3⟩) h4 (L := ls)
  have ist : ∀ {k m : Nat}, mi_istore k m pc ls st h = some N → mi_okN nL h N := fun e => by
    obtain ⟨x, r, rfl, hk, rfl⟩ := mi_istore_inv e
    exact mi_okN_next (by rw [List.length_set]; exact h1) (mi_okL_set h2 trivial) (t1 h3) h4 (L := ls)
  have ast : ∀ {k m : Nat}, mi_astore k m pc ls st h = some N → mi_okN nL h N := fun e => by
    obtain ⟨hk, ⟨x, r, rfl, rfl⟩ | ⟨r, rfl, rfl⟩⟩ := mi_astore_inv e
    · exact mi_okN_next (by rw [List.length_set]; exact h1) (mi_okL_set h2 (t0 h3)) (t1 h3) h4 (L := ls)
    · exact mi_okN_next (by rw [List.length_set]; exact h1) (mi_okL_set h2 trivial) (t1 h3) h4 (L := ls)
  have inv : ∀ {kd c idx : Nat}, mi_inv kd c idx pc ls st h = some N → mi_okN nL h N := fun e => by
    rcases mi_inv_inv e with ⟨-, -, a, r, rfl, -, rfl⟩ | ⟨k, nest, Y, -, -, -, -, -, ⟨-, rfl⟩ | ⟨-, b, r, ci, fs, q, hd, -, -, -, rfl⟩⟩
    · exact mi_okN_next h1 h2 (t1 h3) h4 (L := ls)
    · refine ⟨⟨h1, h2, fun v hv => h3 v (List.mem_of_mem_drop hv), h4⟩, rfl, fun v hv => h3 v (List.mem_of_mem_take (List.mem_reverse.mp hv))⟩
    · have hd3 : ∀ v ∈ Value.ref b :: r, mi_ok h.length v := fun v hv => h3 v (List.mem_of_mem_drop (by rw [hd]; exact hv))
      exact ⟨⟨h1, h2, t1 hd3, h4⟩, rfl, List.forall_mem_cons.mpr ⟨t0 hd3, fun v hv => h3 v (List.mem_of_mem_take (List.mem_reverse.mp hv))⟩⟩
  unfold mi_op at e
  split at e
  · cases e; exact mi_okN_next h1 h2 (hint h3) h4 (L := ls)
  · cases e; exact mi_okN_next h1 h2 (hint h3) h4 (L := ls)
  · cases e; exact mi_okN_next h1 h2 (hint h3) h4 (L := ls)
  · cases e; exact mi_okN_next h1 h2 (List.forall_mem_cons.mpr ⟨trivial, h3⟩) h4 (L := ls)
  · exact ild e
  · exact ild e
  · exact ald e
  · exact ald e
  · exact ist e
  · exact ist e
  · exact ast e
  · exact ast e
  · obtain ⟨x, -, rfl⟩ := mi_iinc_inv e
    exact mi_okN_next (by rw [List.length_set]; exact h1) (mi_okL_set h2 trivial) h3 h4 (L := ls)
  · exact bin e
  · exact bin e
  · exact bin e
  · exact bin e
  · exact bin e
  · exact bin e
  · exact bin e
  · exact bin e
  · exact bin e
  · exact div e
  · exact div e
  · split at e
    · cases e; exact mi_okN_next h1 h2 (hint (t1 h3)) h4 (L := ls)
    · cases e
  · split at e
    · split at e
      · cases e; exact mi_okN_next h1 h2 (List.forall_mem_cons.mpr ⟨t0 h3, h3⟩) h4 (L := ls)
      · cases e
    · cases e
  · split at e
    · split at e
      · cases e; exact mi_okN_next h1 h2 (List.forall_mem_cons.mpr ⟨t0 h3, List.forall_mem_cons.mpr ⟨t0 (t1 h3), h3⟩⟩) h4 (L := ls)
      · cases e
    · cases e
  · split at e
    · split at e
      · cases e; exact mi_okN_next h1 h2 (t1 h3) h4 (L := ls)
      · cases e
    · cases e
  · obtain ⟨t, -, rfl⟩ := mi_goto_inv e
    exact mi_okN_next h1 h2 h3 h4 (L := ls)
  · obtain ⟨x, r, rfl, ⟨-, t, -, rfl⟩ | ⟨-, rfl⟩⟩ := mi_if1_inv e
    · exact mi_okN_next h1 h2 (t1 h3) h4 (L := ls)
    · exact mi_okN_next h1 h2 (t1 h3) h4 (L := ls)
  · obtain ⟨x, y, r, rfl, ⟨-, t, -, rfl⟩ | ⟨-, rfl⟩⟩ := mi_if2_inv e
    · exact mi_okN_next h1 h2 (t1 (t1 h3)) h4 (L := ls)
    · exact mi_okN_next h1 h2 (t1 (t1 h3)) h4 (L := ls)
  · rcases mi_ifnT_inv e with ⟨r, rfl, t, -, rfl⟩ | ⟨x, r, rfl, rfl⟩
    · exact mi_okN_next h1 h2 (t1 h3) h4 (L := ls)
    · exact mi_okN_next h1 h2 (t1 h3) h4 (L := ls)
  · rcases mi_ifnF_inv e with ⟨x, r, rfl, t, -, rfl⟩ | ⟨r, rfl, rfl⟩
    · exact mi_okN_next h1 h2 (t1 h3) h4 (L := ls)
    · exact mi_okN_next h1 h2 (t1 h3) h4 (L := ls)
  · obtain ⟨x, r, rfl, ⟨-, t, -, rfl⟩ | ⟨-, off, -, t, -, rfl⟩⟩ := mi_tsw_inv e
    · exact mi_okN_next h1 h2 (t1 h3) h4 (L := ls)
    · exact mi_okN_next h1 h2 (t1 h3) h4 (L := ls)
  · obtain ⟨x, r, rfl, -, t, -, rfl⟩ := mi_lsw_inv e
    exact mi_okN_next h1 h2 (t1 h3) h4 (L := ls)
  · obtain ⟨a, r, ci, k, nest, fs, v, rfl, -, ha, hv, rfl⟩ := mi_get_inv e
    exact mi_okN_next h1 h2 (List.forall_mem_cons.mpr ⟨mi_okh_get h4 ha v (List.mem_of_getElem? hv), t1 h3⟩) h4 (L := ls)
  · obtain ⟨v, a, r, ci, k, nest, fs, rfl, -, ha, hk, -, rfl⟩ := mi_put_inv e
    refine mi_okN_set h1 h2 (t1 (t1 h3)) h4 ha ?_ (by simp [mi_szc])
    intro w hw
    rcases List.mem_or_eq_of_mem_set hw with q | q
    · exact mi_okh_get h4 ha w q
    · rw [q]; exact t0 h3
  · obtain ⟨j, -, rfl⟩ := mi_gets_inv e
    exact mi_okN_next h1 h2 (List.forall_mem_cons.mpr ⟨trivial, h3⟩) h4 (L := ls)
  · obtain ⟨ci, q, -, hq, rfl⟩ := mi_new_inv e
    refine mi_okN_push h1 h2 h3 h4 ?_
    intro v hv
    obtain ⟨k, hk, rfl⟩ := List.mem_map.mp hv
    exact mi_ok_default _ _ (mi_V_fit q (List.mem_of_getElem? hq) k (List.mem_range.mp hk))
  · obtain ⟨n, r, rfl, -, -, rfl⟩ := mi_newa_inv e
    exact mi_okN_push h1 h2 (t1 h3) h4 trivial
  · obtain ⟨n, r, rfl, -, -, rfl⟩ := mi_newa_inv e
    exact mi_okN_push h1 h2 (t1 h3) h4 trivial
  · obtain ⟨n, r, rfl, -, -, -, rfl⟩ := mi_newq_inv e
    refine mi_okN_push h1 h2 (t1 h3) h4 ?_
    intro k hk
    exact absurd (List.eq_of_mem_replicate hk) (by simp)
  · obtain ⟨a, r, xs, rfl, -, rfl⟩ := mi_alen_inv e
    exact mi_okN_next h1 h2 (hint (t1 h3)) h4 (L := ls)
  · rcases mi_iald_inv e with ⟨i, a, r, xs, x, rfl, -, -, -, rfl⟩ | ⟨i, j, r, q, x, rfl, -, -, -, rfl⟩
    · exact mi_okN_next h1 h2 (hint (t1 (t1 h3))) h4 (L := ls)
    · exact mi_okN_next h1 h2 (hint (t1 (t1 h3))) h4 (L := ls)
  · obtain ⟨x, i, a, r, xs, rfl, ha, -, rfl⟩ := mi_iast_inv e
    exact mi_okN_set h1 h2 (t1 (t1 (t1 h3))) h4 ha trivial (by simp [mi_szc])
  · obtain ⟨i, a, r, xs, x, rfl, -, -, -, rfl⟩ := mi_bald_inv e
    exact mi_okN_next h1 h2 (hint (t1 (t1 h3))) h4 (L := ls)
  · obtain ⟨x, i, a, r, xs, rfl, ha, -, rfl⟩ := mi_bast_inv e
    exact mi_okN_set h1 h2 (t1 (t1 (t1 h3))) h4 ha trivial (by simp [mi_szc])
  · obtain ⟨i, a, r, xs, rfl, ha, -, ⟨x, hx, rfl⟩ | ⟨-, rfl⟩⟩ := mi_aald_inv e
    · exact mi_okN_next h1 h2 (List.forall_mem_cons.mpr ⟨mi_okh_get h4 ha x (List.mem_of_getElem? hx), t1 (t1 h3)⟩) h4 (L := ls)
    · exact mi_okN_next h1 h2 (List.forall_mem_cons.mpr ⟨trivial, t1 (t1 h3)⟩) h4 (L := ls)
  · obtain ⟨v, i, a, r, xs, fs, rfl, ha, -, -, rfl⟩ := mi_aast_inv e
    refine mi_okN_set h1 h2 (t1 (t1 (t1 h3))) h4 ha ?_ (by simp [mi_szc])
    intro k hk
    rcases List.mem_or_eq_of_mem_set hk with q | q
    · exact mi_okh_get h4 ha k q
    · cases q; exact t0 h3
  · exact inv e
  · exact inv e
  · exact inv e
  · obtain ⟨ty, v, -, rfl, -, rfl⟩ := mi_ret_inv e
    exact ⟨rfl, fun w hw => by cases hw; trivial⟩
  · obtain ⟨C, v, -, rfl, -, rfl⟩ := mi_aret_inv e
    exact ⟨rfl, fun w hw => by cases hw; exact t0 h3⟩
  · obtain ⟨-, -, rfl⟩ := mi_vret_inv e
    exact ⟨rfl, fun w hw => by cases hw⟩
  · cases e
/-- what a whole run keeps -/
def mi_okR (h : mi_H) (r : Option Value) (h' : mi_H) : Prop := mi_okh h'.length h' ∧ (∀ v, r = some v → mi_ok h'.length v) ∧ h.length ≤ h'.length ∧ mi_sz h ≤ mi_sz h'
/-- one step of a run, and what is left of it -/
def mi_fin (call : Nat → List Value → mi_H → Option Value → mi_H → Prop) (X : mi_M) (n : Nat) (r : Option Value) (h' : mi_H) : mi_N → Prop
  | .inl F' => mi_it call X n F' r h'
  | .inr (.inl (k, as, F')) => ∃ r1 h1, call k as F'.2.2.2 r1 h1 ∧ mi_it call X n (F'.1, F'.2.1, r1.toList ++ F'.2.2.1, h1) r h'
  | .inr (.inr (r0, h0)) => r = r0 ∧ h' = h0
theorem mi_it_step {call : Nat → List Value → mi_H → Option Value → mi_H → Prop} {X : mi_M} {n : Nat} {F : mi_F} {r : Option Value} {h' : mi_H} (q : mi_it call X (n + 1) F r h') : ∃ i m, mi_look X.1 F.1 = some (i, m) ∧ ∃ N, mi_op X i m F.1 F.2.1 F.2.2.1 F.2.2.2 = some N ∧ mi_fin call X n r h' N := by
  unfold mi_it mi_st at q
  split at q
  · rename_i F' e
    split at e
    · rename_i i m e2; exact ⟨i, m, e2, _, e, q⟩
    · cases e
  · rename_i k as F' e
    split at e
    · rename_i i m e2; exact ⟨i, m, e2, _, e, q⟩
    · cases e
  · rename_i r0 h0 e
    split at e
    · rename_i i m e2; exact ⟨i, m, e2, _, e, q⟩
    · cases e
  · exact absurd q id
theorem mi_it_ok {call : Nat → List Value → mi_H → Option Value → mi_H → Prop} (hc : ∀ k as h r h', call k as h r h' → (∀ v ∈ as, mi_ok h.length v) → mi_okh h.length h → mi_okR h r h') {X : mi_M} {nL : Nat} : ∀ (n : Nat) (F : mi_F) (r : Option Value) (h' : mi_H), mi_it call X n F r h' → mi_okF nL F → mi_okR F.2.2.2 r h' := by
  intro n
  induction n with
  | zero => intro F r h' q; exact absurd q id
  | succ n ih =>
    intro F r h' q hF
    obtain ⟨i, m, -, N, e, hf⟩ := mi_it_step q
    obtain ⟨pc, ls, st, h⟩ := F
    have hN := mi_op_ok e hF
    obtain F' | ⟨k, as, F'⟩ | ⟨r0, h0⟩ := N
    · obtain ⟨a1, a2, a3⟩ := hN
      obtain ⟨b1, b2, b3, b4⟩ := ih _ _ _ hf a1
      exact ⟨b1, b2, Nat.le_trans a2 b3, Nat.le_trans a3 b4⟩
    · obtain ⟨⟨c1, c2, c3, c4⟩, a2, a3⟩ := hN
      obtain ⟨r1, h1, g1, g2⟩ := hf
      obtain ⟨pc', ls', st', h2⟩ := F'
      dsimp only at a2 c1 c2 c3 c4 g1 g2
      subst a2
      obtain ⟨d1, d2, d3, d4⟩ := hc _ _ _ _ _ g1 a3 c4
      obtain ⟨b1, b2, b3, b4⟩ := ih _ _ _ g2 ⟨c1, fun v hv => mi_ok_mono d3 (c2 v hv), fun v hv => by
        rcases List.mem_append.mp hv with z | z
        · exact d2 v (by cases r1 with
            | none => cases z
            | some w => rw [List.mem_singleton.mp z])
        · exact mi_ok_mono d3 (c3 v z), d1⟩
      exact ⟨b1, b2, Nat.le_trans d3 b3, Nat.le_trans d4 b4⟩
    · obtain ⟨a1, a2⟩ := hN
      obtain ⟨rfl, rfl⟩ := hf
      subst a1
      exact ⟨hF.2.2.2, a2, Nat.le_refl _, Nat.le_refl _⟩
theorem mi_okF_en {X : mi_M} {as : List Value} {h : mi_H} (hl : as.length ≤ X.2.2.2.1) (ha : ∀ v ∈ as, mi_ok h.length v) (hh : mi_okh h.length h) : mi_okF X.2.2.2.1 (mi_en X as h) := by
  refine ⟨by simp [mi_en]; omega, fun v hv => ?_, (fun v hv => by cases hv), hh⟩
  rcases List.mem_append.mp hv with z | z
  · obtain ⟨w, hw, e⟩ := List.mem_map.mp z
    cases e
    exact ha v hw
  · exact absurd (List.eq_of_mem_replicate z) (by simp)
theorem mi_Ca_ok : ∀ (d k : Nat) (as : List Value) (h : mi_H) (r : Option Value) (h' : mi_H), mi_Ca d k as h r h' → (∀ v ∈ as, mi_ok h.length v) → mi_okh h.length h → mi_okR h r h' := by
  intro d
  induction d with
  | zero => intro k as h r h' q; exact absurd q id
  | succ d ih =>
    intro k as h r h' q ha hh
    obtain ⟨X, n, -, hl, hi⟩ := q
    exact mi_it_ok (fun k as h r h' q => ih k as h r h' q) n _ _ _ hi (mi_okF_en hl ha hh)
