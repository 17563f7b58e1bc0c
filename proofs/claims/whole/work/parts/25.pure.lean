/-! CODE THAT TOUCHES NO CELL runs the same over every heap; what Device's constructor computes; state, device -/
def mi_nh : mi_N → mi_H
  | .inl F => F.2.2.2
  | .inr (.inl (_, _, F)) => F.2.2.2
  | .inr (.inr (_, h)) => h
def mi_sh (h : mi_H) : mi_N → mi_N
  | .inl F => .inl (F.1, F.2.1, F.2.2.1, h)
  | .inr (.inl (k, as, F)) => .inr (.inl (k, as, (F.1, F.2.1, F.2.2.1, h)))
  | .inr (.inr (r, _)) => .inr (.inr (r, h))
theorem mi_goto_any {pc : Nat} {off : Int} {ls : List (Option Value)} {st : List Value} {h : mi_H} {N : mi_N} (e : mi_goto pc off ls st [] = some N) : mi_goto pc off ls st h = some (mi_sh h N) := by
  obtain ⟨t, ht, rfl⟩ := mi_goto_inv e
  exact mi_goto_to ht
set_option maxHeartbeats 4000000 in
theorem mi_op_any {X : mi_M} {i : Instr} {n pc : Nat} {ls : List (Option Value)} {st : List Value} {N : mi_N} (e : mi_op X i n pc ls st [] = some N) (hn : mi_nh N = []) (h : mi_H) : mi_op X i n pc ls st h = some (mi_sh h N) := by
  have none_at : ∀ {a : Nat} {c : mi_C} {P : Prop}, ([] : mi_H)[a]? = some c → P := fun z => by simp at z
  unfold mi_op at e
  split at e
  · cases e; rfl
  · cases e; rfl
  · cases e; rfl
  · cases e; rfl
  · obtain ⟨x, hx, rfl⟩ := mi_iload_inv e; simp only [mi_op, mi_iload, hx]; rfl
  · obtain ⟨x, hx, rfl⟩ := mi_iload_inv e; simp only [mi_op, mi_iload, hx]; rfl
  · rcases mi_aload_inv e with ⟨x, hx, rfl⟩ | ⟨hx, rfl⟩ <;> (simp only [mi_op, mi_aload, hx]; rfl)
  · rcases mi_aload_inv e with ⟨x, hx, rfl⟩ | ⟨hx, rfl⟩ <;> (simp only [mi_op, mi_aload, hx]; rfl)
  · obtain ⟨x, r, rfl, hk, rfl⟩ := mi_istore_inv e; simp only [mi_op, mi_istore, if_pos hk]; rfl
  · obtain ⟨x, r, rfl, hk, rfl⟩ := mi_istore_inv e; simp only [mi_op, mi_istore, if_pos hk]; rfl
  · obtain ⟨hk, ⟨x, r, rfl, rfl⟩ | ⟨r, rfl, rfl⟩⟩ := mi_astore_inv e <;> (simp only [mi_op, mi_astore, if_pos hk]; rfl)
  · obtain ⟨hk, ⟨x, r, rfl, rfl⟩ | ⟨r, rfl, rfl⟩⟩ := mi_astore_inv e <;> (simp only [mi_op, mi_astore, if_pos hk]; rfl)
  · obtain ⟨x, hx, rfl⟩ := mi_iinc_inv e; simp only [mi_op, mi_iinc, hx]; rfl
  · obtain ⟨x, y, r, rfl, rfl⟩ := mi_bin_inv e; rfl
  · obtain ⟨x, y, r, rfl, rfl⟩ := mi_bin_inv e; rfl
  · obtain ⟨x, y, r, rfl, rfl⟩ := mi_bin_inv e; rfl
  · obtain ⟨x, y, r, rfl, rfl⟩ := mi_bin_inv e; rfl
  · obtain ⟨x, y, r, rfl, rfl⟩ := mi_bin_inv e; rfl
  · obtain ⟨x, y, r, rfl, rfl⟩ := mi_bin_inv e; rfl
  · obtain ⟨x, y, r, rfl, rfl⟩ := mi_bin_inv e; rfl
  · obtain ⟨x, y, r, rfl, rfl⟩ := mi_bin_inv e; rfl
  · obtain ⟨x, y, r, rfl, rfl⟩ := mi_bin_inv e; rfl
  · obtain ⟨x, y, r, rfl, hy, rfl⟩ := mi_div_inv e; simp only [mi_op, mi_div, if_neg hy]; rfl
  · obtain ⟨x, y, r, rfl, hy, rfl⟩ := mi_div_inv e; simp only [mi_op, mi_div, if_neg hy]; rfl
  · split at e
    · cases e; rfl
    · cases e
  · split at e
    · split at e
      · rename_i hc; cases e; simp only [mi_op, if_pos hc]; rfl
      · cases e
    · cases e
  · split at e
    · split at e
      · rename_i hc; cases e; simp only [mi_op, if_pos hc]; rfl
      · cases e
    · cases e
  · split at e
    · split at e
      · rename_i hc; cases e; simp only [mi_op, if_pos hc]; rfl
      · cases e
    · cases e
  · exact mi_goto_any e
  · obtain ⟨x, r, rfl, ⟨hh, t, ht, rfl⟩ | ⟨hh, rfl⟩⟩ := mi_if1_inv e
    · simp only [mi_op, mi_if1, if_pos hh]; exact mi_goto_to ht
    · simp only [mi_op, mi_if1, if_neg hh]; rfl
  · obtain ⟨x, y, r, rfl, ⟨hh, t, ht, rfl⟩ | ⟨hh, rfl⟩⟩ := mi_if2_inv e
    · simp only [mi_op, mi_if2, if_pos hh]; exact mi_goto_to ht
    · simp only [mi_op, mi_if2, if_neg hh]; rfl
  · rcases mi_ifnT_inv e with ⟨r, rfl, t, ht, rfl⟩ | ⟨x, r, rfl, rfl⟩
    · exact mi_goto_to ht
    · rfl
  · rcases mi_ifnF_inv e with ⟨x, r, rfl, t, ht, rfl⟩ | ⟨r, rfl, rfl⟩
    · exact mi_goto_to ht
    · rfl
  · obtain ⟨x, r, rfl, ⟨hh, t, ht, rfl⟩ | ⟨hh, off, ho, t, ht, rfl⟩⟩ := mi_tsw_inv e
    · simp only [mi_op, mi_tsw, if_pos hh]; exact mi_goto_to ht
    · simp only [mi_op, mi_tsw, if_neg hh, ho]; exact mi_goto_to ht
  · obtain ⟨x, r, rfl, hp, t, ht, rfl⟩ := mi_lsw_inv e
    simp only [mi_op, mi_lsw, if_pos hp]; exact mi_goto_to ht
  · obtain ⟨a, r, ci, k, nest, fs, v, rfl, -, ha, -⟩ := mi_get_inv e; exact none_at ha
  · obtain ⟨v, a, r, ci, k, nest, fs, rfl, -, ha, -⟩ := mi_put_inv e; exact none_at ha
  · obtain ⟨j, hj, rfl⟩ := mi_gets_inv e; simp only [mi_op, mi_gets, hj]; rfl
  · obtain ⟨ci, q, -, -, rfl⟩ := mi_new_inv e; simp [mi_nh] at hn
  · obtain ⟨n, r, rfl, -, -, rfl⟩ := mi_newa_inv e; simp [mi_nh] at hn
  · obtain ⟨n, r, rfl, -, -, rfl⟩ := mi_newa_inv e; simp [mi_nh] at hn
  · obtain ⟨n, r, rfl, -, -, -, rfl⟩ := mi_newq_inv e; simp [mi_nh] at hn
  · obtain ⟨a, r, xs, rfl, ha, rfl⟩ := mi_alen_inv e; exact none_at ha
  · rcases mi_iald_inv e with ⟨i, a, r, xs, x, rfl, ha, -⟩ | ⟨i, j, r, q, x, rfl, hq, h0, hx, rfl⟩
    · exact none_at ha
    · simp only [mi_op, mi_iald, hq, if_neg h0, hx]; rfl
  · obtain ⟨x, i, a, r, xs, rfl, ha, -⟩ := mi_iast_inv e; exact none_at ha
  · obtain ⟨i, a, r, xs, x, rfl, ha, -⟩ := mi_bald_inv e; exact none_at ha
  · obtain ⟨x, i, a, r, xs, rfl, ha, -⟩ := mi_bast_inv e; exact none_at ha
  · obtain ⟨i, a, r, xs, rfl, ha, -⟩ := mi_aald_inv e; exact none_at ha
  · obtain ⟨v, i, a, r, xs, fs, rfl, ha, -⟩ := mi_aast_inv e; exact none_at ha
  · rcases mi_inv_inv e with ⟨hk, -⟩ | ⟨k, nest, Y, h1, h2, h3, h4, h5, ⟨-, rfl⟩ | ⟨hk, -⟩⟩
    · exact absurd hk (by decide)
    · show mi_inv 0 X.2.1 _ pc ls st h = _
      unfold mi_inv
      rw [if_neg (mi_notO rfl)]
      simp only [h1, h2]
      rw [if_pos ⟨h3, h4, h5⟩]
      rfl
    · exact absurd rfl hk
  · rcases mi_inv_inv e with ⟨hk, -⟩ | ⟨k, nest, Y, h1, h2, h3, h4, h5, ⟨hk, -⟩ | ⟨-, b, r, ci, fs, q, -, hb, -⟩⟩
    · exact absurd hk (by decide)
    · exact absurd hk (by decide)
    · exact none_at hb
  · rcases mi_inv_inv e with ⟨-, ho, a, r, rfl, hr, rfl⟩ | ⟨k, nest, Y, h1, h2, h3, h4, h5, ⟨hk, -⟩ | ⟨-, b, r, ci, fs, q, -, hb, -⟩⟩
    · show mi_inv 2 X.2.1 _ pc ls (.ref a :: r) h = _
      unfold mi_inv
      rw [if_pos ⟨rfl, by simpa using ho⟩]
      simp only [if_pos hr]
      rfl
    · exact absurd hk (by decide)
    · exact none_at hb
  · unfold mi_ret at e
    simp only [mi_op, mi_ret]
    split at e
    · rename_i hr; cases e; rfl
    · rename_i hr
      split at e
      · rename_i hv; cases e; simp only [if_pos hv]; rfl
      · cases e
    · cases e
  · unfold mi_aret at e
    simp only [mi_op, mi_aret]
    split at e
    · cases e; rfl
    · cases e; rfl
    · cases e
  · unfold mi_vret at e
    simp only [mi_op, mi_vret]
    split at e
    · cases e; rfl
    · cases e
  · cases e
theorem mi_st_any {X : mi_M} {pc : Nat} {ls : List (Option Value)} {st : List Value} {N : mi_N} (e : mi_st X (pc, ls, st, []) = some N) (hn : mi_nh N = []) (h : mi_H) : mi_st X (pc, ls, st, h) = some (mi_sh h N) := by
  unfold mi_st at e ⊢
  dsimp only at e ⊢
  split at e
  · rename_i i n hl
    first | (rw [hl]; exact mi_op_any e hn h) | exact mi_op_any e hn h
  · cases e
def mi_itp (callp : Nat → List Value → Option (Option Value)) (X : mi_M) : Nat → Nat → List (Option Value) → List Value → Option (Option Value)
  | 0, _, _, _ => none
  | n + 1, pc, ls, st => match mi_st X (pc, ls, st, []) with
    | some (.inl (pc2, ls2, st2, [])) => mi_itp callp X n pc2 ls2 st2
    | some (.inr (.inl (k, as, (pc2, ls2, st2, [])))) => match callp k as with
      | some r1 => mi_itp callp X n pc2 ls2 (r1.toList ++ st2)
      | none => none
    | some (.inr (.inr (r, []))) => some r
    | _ => none
def mi_Pf (fuel : Nat) : Nat → Nat → List Value → Option (Option Value)
  | 0, _, _ => none
  | d + 1, k, as => match mi_L[k]? with
    | some X => if as.length ≤ X.2.2.2.1 then mi_itp (mi_Pf fuel d) X fuel 0 (mi_en X as []).2.1 [] else none
    | none => none
theorem mi_itp_ok {call : Nat → List Value → mi_H → Option Value → mi_H → Prop} {callp : Nat → List Value → Option (Option Value)} (hc : ∀ k as r, callp k as = some r → ∀ h, call k as h r h) {X : mi_M} (h : mi_H) : ∀ (n pc : Nat) (ls : List (Option Value)) (st : List Value) (r : Option Value), mi_itp callp X n pc ls st = some r → mi_it call X n (pc, ls, st, h) r h := by
  intro n
  induction n with
  | zero => intro pc ls st r e; cases e
  | succ n ih =>
    intro pc ls st r e
    unfold mi_itp at e
    unfold mi_it
    split at e
    · rename_i e2; rw [mi_st_any e2 rfl h]; exact ih _ _ _ _ e
    · rename_i e2
      rw [mi_st_any e2 rfl h]
      split at e
      · rename_i r1 e3; exact ⟨r1, h, hc _ _ _ e3 h, ih _ _ _ _ e⟩
      · cases e
    · rename_i e2; rw [mi_st_any e2 rfl h]; cases e; exact ⟨rfl, rfl⟩
    · cases e
theorem mi_Pf_ok (fuel : Nat) : ∀ (d k : Nat) (as : List Value) (r : Option Value), mi_Pf fuel d k as = some r → ∀ h, mi_Ca d k as h r h := by
  intro d
  induction d with
  | zero => intro k as r e; cases e
  | succ d ih =>
    intro k as r e h
    unfold mi_Pf at e
    split at e
    · rename_i X hX
      split at e
      · rename_i hl
        exact ⟨X, fuel, hX, hl, mi_itp_ok (fun k as r q => ih k as r q) h _ _ _ _ _ e⟩
      · cases e
    · cases e
theorem mi_Pf_WC {fuel d k : Nat} {as : List Value} {r : Option Value} (e : mi_Pf fuel d k as = some r) (h : mi_H) : mi_WC d k as h (fun r' h' => r' = r ∧ h' = h) := ⟨r, h, mi_Pf_ok fuel d k as r e h, rfl, rfl⟩
set_option maxRecDepth 100000 in
theorem ways_tab : ((List.range 11).all fun k => decide (mi_Pf 2000 5 32 [.int (nI k)] = some (some (.int (mi_wy.getD k 0)))) && decide (mi_Pf 2000 5 33 [.int (mi_wy.getD k 0)] = some (some (.int (mi_ak.getD k 0))))) = true := by decide +kernel
theorem ways_at {k : Nat} (hk : k < 11) : mi_Pf 2000 5 32 [.int (nI k)] = some (some (.int (mi_wy.getD k 0))) ∧ mi_Pf 2000 5 33 [.int (mi_wy.getD k 0)] = some (some (.int (mi_ak.getD k 0))) := by
  have h := List.all_eq_true.mp ways_tab k (List.mem_range.mpr hk)
  simp only [Bool.and_eq_true, decide_eq_true_eq] at h
  exact h
