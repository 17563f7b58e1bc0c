/-! what each step was, read back -/
section INV
variable {pc : Nat} {ls : List (Option Value)} {st : List Value} {h : mi_H} {N : mi_N}
theorem mi_goto_inv {off : Int} (e : mi_goto pc off ls st h = some N) : ∃ t : Nat, (pc : Int) + off = (t : Int) ∧ N = .inl (t, ls, st, h) := by
  unfold mi_goto at e
  split at e
  · rename_i q; cases e; exact ⟨_, (Int.toNat_of_nonneg q).symm, rfl⟩
  · cases e
theorem mi_bin_inv {f : Int32 → Int32 → Int32} (e : mi_bin f pc ls st h = some N) : ∃ x y r, st = .int y :: .int x :: r ∧ N = .inl (pc + 1, ls, .int (f x y) :: r, h) := by
  unfold mi_bin at e
  split at e
  · cases e; exact ⟨_, _, _, rfl, rfl⟩
  · cases e
theorem mi_div_inv {f : Int32 → Int32 → Int32} (e : mi_div f pc ls st h = some N) : ∃ x y r, st = .int y :: .int x :: r ∧ ¬ y = 0 ∧ N = .inl (pc + 1, ls, .int (f x y) :: r, h) := by
  unfold mi_div at e
  split at e
  · split at e
    · cases e
    · rename_i q; cases e; exact ⟨_, _, _, rfl, q, rfl⟩
  · cases e
theorem mi_iload_inv {k n : Nat} (e : mi_iload k n pc ls st h = some N) : ∃ x, ls[k]? = some (some (.int x)) ∧ N = .inl (pc + n, ls, .int x :: st, h) := by
  unfold mi_iload at e
  split at e
  · rename_i q; cases e; exact ⟨_, q, rfl⟩
  · cases e
theorem mi_aload_inv {k n : Nat} (e : mi_aload k n pc ls st h = some N) : (∃ x, ls[k]? = some (some (.ref x)) ∧ N = .inl (pc + n, ls, .ref x :: st, h)) ∨ (ls[k]? = some (some .null) ∧ N = .inl (pc + n, ls, .null :: st, h)) := by
  unfold mi_aload at e
  split at e
  · rename_i q; cases e; exact Or.inl ⟨_, q, rfl⟩
  · rename_i q; cases e; exact Or.inr ⟨q, rfl⟩
  · cases e
theorem mi_istore_inv {k n : Nat} (e : mi_istore k n pc ls st h = some N) : ∃ x r, st = .int x :: r ∧ k < ls.length ∧ N = .inl (pc + n, ls.set k (some (.int x)), r, h) := by
  unfold mi_istore at e
  split at e
  · split at e
    · rename_i q; cases e; exact ⟨_, _, rfl, q, rfl⟩
    · cases e
  · cases e
theorem mi_astore_inv {k n : Nat} (e : mi_astore k n pc ls st h = some N) : k < ls.length ∧ ((∃ x r, st = .ref x :: r ∧ N = .inl (pc + n, ls.set k (some (.ref x)), r, h)) ∨ (∃ r, st = .null :: r ∧ N = .inl (pc + n, ls.set k (some .null), r, h))) := by
  unfold mi_astore at e
  split at e
  · split at e
    · rename_i q; cases e; exact ⟨q, Or.inl ⟨_, _, rfl, rfl⟩⟩
    · cases e
  · split at e
    · rename_i q; cases e; exact ⟨q, Or.inr ⟨_, rfl, rfl⟩⟩
    · cases e
  · cases e
theorem mi_iinc_inv {k : Nat} {d : Int} (e : mi_iinc k d pc ls st h = some N) : ∃ x, ls[k]? = some (some (.int x)) ∧ N = .inl (pc + 3, ls.set k (some (.int (x + Int32.ofInt d))), st, h) := by
  unfold mi_iinc at e
  split at e
  · rename_i q; cases e; exact ⟨_, q, rfl⟩
  · cases e
theorem mi_if1_inv {c : ClassFile.Cond} {off : Int} (e : mi_if1 c off pc ls st h = some N) : ∃ x r, st = .int x :: r ∧ ((Op.ifCond.holds c x = true ∧ ∃ t : Nat, (pc : Int) + off = (t : Int) ∧ N = .inl (t, ls, r, h)) ∨ (¬ Op.ifCond.holds c x = true ∧ N = .inl (pc + 3, ls, r, h))) := by
  unfold mi_if1 at e
  split at e
  · split at e
    · rename_i q; exact ⟨_, _, rfl, Or.inl ⟨q, mi_goto_inv e⟩⟩
    · rename_i q; cases e; exact ⟨_, _, rfl, Or.inr ⟨q, rfl⟩⟩
  · cases e
theorem mi_if2_inv {c : ClassFile.Cond} {off : Int} (e : mi_if2 c off pc ls st h = some N) : ∃ x y r, st = .int y :: .int x :: r ∧ ((Op.if_icmp.holds c x y = true ∧ ∃ t : Nat, (pc : Int) + off = (t : Int) ∧ N = .inl (t, ls, r, h)) ∨ (¬ Op.if_icmp.holds c x y = true ∧ N = .inl (pc + 3, ls, r, h))) := by
  unfold mi_if2 at e
  split at e
  · split at e
    · rename_i q; exact ⟨_, _, _, rfl, Or.inl ⟨q, mi_goto_inv e⟩⟩
    · rename_i q; cases e; exact ⟨_, _, _, rfl, Or.inr ⟨q, rfl⟩⟩
  · cases e
theorem mi_ifnT_inv {off : Int} (e : mi_ifn true off pc ls st h = some N) : (∃ r, st = .null :: r ∧ ∃ t : Nat, (pc : Int) + off = (t : Int) ∧ N = .inl (t, ls, r, h)) ∨ (∃ x r, st = .ref x :: r ∧ N = .inl (pc + 3, ls, r, h)) := by
  unfold mi_ifn at e
  split at e
  · simp only [if_true] at e; exact Or.inl ⟨_, rfl, mi_goto_inv e⟩
  · simp only [if_true] at e; cases e; exact Or.inr ⟨_, _, rfl, rfl⟩
  · cases e
theorem mi_ifnF_inv {off : Int} (e : mi_ifn false off pc ls st h = some N) : (∃ x r, st = .ref x :: r ∧ ∃ t : Nat, (pc : Int) + off = (t : Int) ∧ N = .inl (t, ls, r, h)) ∨ (∃ r, st = .null :: r ∧ N = .inl (pc + 3, ls, r, h)) := by
  unfold mi_ifn at e
  split at e
  · simp only [Bool.false_eq_true, if_false] at e; cases e; exact Or.inr ⟨_, rfl, rfl⟩
  · simp only [Bool.false_eq_true, if_false] at e; exact Or.inl ⟨_, _, rfl, mi_goto_inv e⟩
  · cases e
theorem mi_tsw_inv {dflt lo hi : Int} {offs : Array Int} (e : mi_tsw dflt lo hi offs pc ls st h = some N) : ∃ x r, st = .int x :: r ∧ (((x.toInt < lo ∨ hi < x.toInt) ∧ ∃ t : Nat, (pc : Int) + dflt = (t : Int) ∧ N = .inl (t, ls, r, h)) ∨ (¬ (x.toInt < lo ∨ hi < x.toInt) ∧ ∃ off, offs[(x.toInt - lo).toNat]? = some off ∧ ∃ t : Nat, (pc : Int) + off = (t : Int) ∧ N = .inl (t, ls, r, h))) := by
  unfold mi_tsw at e
  split at e
  · split at e
    · rename_i q; exact ⟨_, _, rfl, Or.inl ⟨q, mi_goto_inv e⟩⟩
    · rename_i q
      split at e
      · rename_i off q2; exact ⟨_, _, rfl, Or.inr ⟨q, off, q2, mi_goto_inv e⟩⟩
      · cases e
  · cases e
theorem mi_lsw_inv {dflt : Int} {ps : Array (Int × Int)} (e : mi_lsw dflt ps pc ls st h = some N) : ∃ x r, st = .int x :: r ∧ (ps.toList.zip (ps.toList.drop 1)).all (fun (a, next) => a.1 < next.1) = true ∧ ∃ t : Nat, (pc : Int) + Op.lookupswitch.offset ps.toList dflt x.toInt = (t : Int) ∧ N = .inl (t, ls, r, h) := by
  unfold mi_lsw at e
  split at e
  · split at e
    · rename_i q; exact ⟨_, _, rfl, q, mi_goto_inv e⟩
    · cases e
  · cases e
theorem mi_get_inv {c idx : Nat} (e : mi_get c idx pc ls st h = some N) : ∃ a r ci k nest fs v, st = .ref a :: r ∧ ((mi_Fl[c]?).getD []).lookup idx = some (ci, k, nest) ∧ h[a]? = some (.inl (ci, fs)) ∧ fs[k]? = some v ∧ N = .inl (pc + 3, ls, v :: r, h) := by
  unfold mi_get at e
  split at e
  · split at e
    · rename_i q1
      split at e
      · rename_i q2
        split at e
        · rename_i q3
          subst q3
          split at e
          · rename_i q4; cases e; exact ⟨_, _, _, _, _, _, _, rfl, q1, q2, q4, rfl⟩
          · cases e
        · cases e
      · cases e
    · cases e
  · cases e
theorem mi_put_inv {c kd idx : Nat} (e : mi_put c kd idx pc ls st h = some N) : ∃ v a r ci k nest fs, st = v :: .ref a :: r ∧ ((mi_Fl[c]?).getD []).lookup idx = some (ci, k, nest) ∧ h[a]? = some (.inl (ci, fs)) ∧ k < fs.length ∧ mi_may c kd ci k nest v = true ∧ N = .inl (pc + 3, ls, r, h.set a (.inl (ci, fs.set k v))) := by
  unfold mi_put at e
  split at e
  · split at e
    · rename_i q1
      split at e
      · rename_i q2
        split at e
        · rename_i q3
          obtain ⟨rfl, q4, q5⟩ := q3
          cases e; exact ⟨_, _, _, _, _, _, _, rfl, q1, q2, q4, q5, rfl⟩
        · cases e
      · cases e
    · cases e
  · cases e
theorem mi_gets_inv {c idx : Nat} (e : mi_gets c idx pc ls st h = some N) : ∃ j, ((mi_Sl[c]?).getD []).lookup idx = some j ∧ N = .inl (pc + 3, ls, .retAddr j :: st, h) := by
  unfold mi_gets at e
  split at e
  · rename_i q; cases e; exact ⟨_, q, rfl⟩
  · cases e
theorem mi_new_inv {c idx : Nat} (e : mi_new c idx pc ls st h = some N) : ∃ ci q, ((mi_Nl[c]?).getD []).lookup idx = some ci ∧ mi_V[ci]? = some q ∧ N = .inl (pc + 3, ls, .ref h.length :: st, h ++ [.inl (ci, (List.range q.2.2.1).map (fun k => defaultValue (q.2.2.2 k)))]) := by
  unfold mi_new at e
  split at e
  · rename_i q1
    split at e
    · rename_i q2; cases e; exact ⟨_, _, q1, q2, rfl⟩
    · cases e
  · cases e
theorem mi_newa_inv {t : Nat} (e : mi_newa t pc ls st h = some N) : ∃ n r, st = .int n :: r ∧ ¬ n < 0 ∧ n.toNatClampNeg ≤ 100000 ∧ N = .inl (pc + 2, ls, .ref h.length :: r, h ++ [.inr (t, .inl (List.replicate n.toNatClampNeg 0))]) := by
  unfold mi_newa at e
  split at e
  · split at e
    · cases e
    · rename_i q; cases e; exact ⟨_, _, rfl, fun z => q (Or.inl z), Nat.not_lt.mp fun z => q (Or.inr z), rfl⟩
  · cases e
theorem mi_newq_inv {c idx : Nat} (e : mi_newq c idx pc ls st h = some N) : ∃ n r, st = .int n :: r ∧ ¬ n < 0 ∧ n.toNatClampNeg ≤ 100000 ∧ ((mi_Nl[c]?).getD []).lookup idx = some 1 ∧ N = .inl (pc + 3, ls, .ref h.length :: r, h ++ [.inr (2, .inr (List.replicate n.toNatClampNeg none))]) := by
  unfold mi_newq at e
  split at e
  · split at e
    · cases e
    · rename_i q; cases e; exact ⟨_, _, rfl, fun z => q (Or.inl z), Nat.not_lt.mp fun z => q (Or.inr (Or.inl z)), Decidable.not_not.mp fun z => q (Or.inr (Or.inr z)), rfl⟩
  · cases e
theorem mi_alen_inv (e : mi_alen pc ls st h = some N) : ∃ a r xs, st = .ref a :: r ∧ h[a]? = some (.inr (0, .inl xs)) ∧ N = .inl (pc + 1, ls, .int (Int32.ofNat xs.length) :: r, h) := by
  unfold mi_alen at e
  split at e
  · split at e
    · rename_i q; cases e; exact ⟨_, _, _, rfl, q, rfl⟩
    · cases e
  · cases e
theorem mi_iald_inv (e : mi_iald pc ls st h = some N) : (∃ i a r xs x, st = .int i :: .ref a :: r ∧ h[a]? = some (.inr (0, .inl xs)) ∧ ¬ i < 0 ∧ xs[i.toNatClampNeg]? = some x ∧ N = .inl (pc + 1, ls, .int x :: r, h)) ∨ (∃ i j r q x, st = .int i :: .retAddr j :: r ∧ mi_Sv[j]? = some q ∧ ¬ i < 0 ∧ q.2[i.toNatClampNeg]? = some x ∧ N = .inl (pc + 1, ls, .int x :: r, h)) := by
  unfold mi_iald at e
  split at e
  · split at e
    · rename_i q1
      split at e
      · cases e
      · rename_i q2
        split at e
        · rename_i q3; cases e; exact Or.inl ⟨_, _, _, _, _, rfl, q1, q2, q3, rfl⟩
        · cases e
    · cases e
  · split at e
    · rename_i q1
      split at e
      · cases e
      · rename_i q2
        split at e
        · rename_i q3; cases e; exact Or.inr ⟨_, _, _, _, _, rfl, q1, q2, q3, rfl⟩
        · cases e
    · cases e
  · cases e
theorem mi_iast_inv (e : mi_iast pc ls st h = some N) : ∃ x i a r xs, st = .int x :: .int i :: .ref a :: r ∧ h[a]? = some (.inr (0, .inl xs)) ∧ ¬ (i < 0 ∨ xs.length ≤ i.toNatClampNeg) ∧ N = .inl (pc + 1, ls, r, h.set a (.inr (0, .inl (xs.set i.toNatClampNeg x)))) := by
  unfold mi_iast at e
  split at e
  · split at e
    · rename_i q1
      split at e
      · cases e
      · rename_i q2; cases e; exact ⟨_, _, _, _, _, rfl, q1, q2, rfl⟩
    · cases e
  · cases e
theorem mi_bald_inv (e : mi_bald pc ls st h = some N) : ∃ i a r xs x, st = .int i :: .ref a :: r ∧ h[a]? = some (.inr (1, .inl xs)) ∧ ¬ i < 0 ∧ xs[i.toNatClampNeg]? = some x ∧ N = .inl (pc + 1, ls, .int x :: r, h) := by
  unfold mi_bald at e
  split at e
  · split at e
    · rename_i q1
      split at e
      · cases e
      · rename_i q2
        split at e
        · rename_i q3; cases e; exact ⟨_, _, _, _, _, rfl, q1, q2, q3, rfl⟩
        · cases e
    · cases e
  · cases e
theorem mi_bast_inv (e : mi_bast pc ls st h = some N) : ∃ x i a r xs, st = .int x :: .int i :: .ref a :: r ∧ h[a]? = some (.inr (1, .inl xs)) ∧ ¬ (i < 0 ∨ xs.length ≤ i.toNatClampNeg) ∧ N = .inl (pc + 1, ls, r, h.set a (.inr (1, .inl (xs.set i.toNatClampNeg (x &&& 1))))) := by
  unfold mi_bast at e
  split at e
  · split at e
    · rename_i q1
      split at e
      · cases e
      · rename_i q2; cases e; exact ⟨_, _, _, _, _, rfl, q1, q2, rfl⟩
    · cases e
  · cases e
theorem mi_aald_inv (e : mi_aald pc ls st h = some N) : ∃ i a r xs, st = .int i :: .ref a :: r ∧ h[a]? = some (.inr (2, .inr xs)) ∧ ¬ i < 0 ∧ ((∃ x, xs[i.toNatClampNeg]? = some (some x) ∧ N = .inl (pc + 1, ls, .ref x :: r, h)) ∨ (xs[i.toNatClampNeg]? = some none ∧ N = .inl (pc + 1, ls, .null :: r, h))) := by
  unfold mi_aald at e
  split at e
  · split at e
    · rename_i q1
      split at e
      · cases e
      · rename_i q2
        split at e
        · rename_i q3; cases e; exact ⟨_, _, _, _, rfl, q1, q2, Or.inl ⟨_, q3, rfl⟩⟩
        · rename_i q3; cases e; exact ⟨_, _, _, _, rfl, q1, q2, Or.inr ⟨q3, rfl⟩⟩
        · cases e
    · cases e
  · cases e
theorem mi_aast_inv (e : mi_aast pc ls st h = some N) : ∃ v i a r xs fs, st = .ref v :: .int i :: .ref a :: r ∧ h[a]? = some (.inr (2, .inr xs)) ∧ ¬ (i < 0 ∨ xs.length ≤ i.toNatClampNeg) ∧ h[v]? = some (.inl (1, fs)) ∧ N = .inl (pc + 1, ls, r, h.set a (.inr (2, .inr (xs.set i.toNatClampNeg (some v))))) := by
  unfold mi_aast at e
  split at e
  · split at e
    · rename_i q1
      split at e
      · cases e
      · rename_i q2
        split at e
        · rename_i q3; cases e; exact ⟨_, _, _, _, _, _, rfl, q1, q2, q3, rfl⟩
        · cases e
    · cases e
  · cases e
theorem mi_inv_inv {kd c idx : Nat} (e : mi_inv kd c idx pc ls st h = some N) : (kd = 2 ∧ idx ∈ (mi_Ol[c]?).getD [] ∧ ∃ a r, st = .ref a :: r ∧ r.length ≤ 4 ∧ N = .inl (pc + 3, ls, r, h)) ∨
    ∃ k nest X, ((mi_Ml[c]?).getD []).lookup idx = some (k, nest) ∧ mi_L[k]? = some X ∧ X.2.2.2.2.1 = kd ∧ X.2.2.2.2.2.1 ≤ st.length ∧ (st.drop X.2.2.2.2.2.1).length ≤ 8 ∧
      ((kd = 0 ∧ N = .inr (.inl (k, (st.take X.2.2.2.2.2.1).reverse, (pc + 3, ls, st.drop X.2.2.2.2.2.1, h)))) ∨
       (kd ≠ 0 ∧ ∃ b r ci fs q, st.drop X.2.2.2.2.2.1 = .ref b :: r ∧ h[b]? = some (.inl (ci, fs)) ∧ mi_V[ci]? = some q ∧ q.1 = mi_cn X.2.1 ∧ N = .inr (.inl (k, .ref b :: (st.take X.2.2.2.2.2.1).reverse, (pc + 3, ls, r, h))))) := by
  unfold mi_inv at e
  split at e
  · rename_i q
    obtain ⟨q1, q2⟩ := q
    split at e
    · split at e
      · rename_i q3; cases e; exact Or.inl ⟨q1, by simpa using q2, _, _, rfl, q3, rfl⟩
      · cases e
    · cases e
  · split at e
    · rename_i q1
      split at e
      · rename_i q2
        split at e
        · rename_i q3
          obtain ⟨q3, q4, q5⟩ := q3
          split at e
          · rename_i q6; cases e; exact Or.inr ⟨_, _, _, q1, q2, q3, q4, q5, Or.inl ⟨q6, rfl⟩⟩
          · rename_i q6
            split at e
            · rename_i q7
              split at e
              · rename_i q8
                split at e
                · rename_i q9
                  split at e
                  · rename_i q10; cases e; exact Or.inr ⟨_, _, _, q1, q2, q3, q4, q5, Or.inr ⟨q6, _, _, _, _, _, q7, q8, q9, q10, rfl⟩⟩
                  · cases e
                · cases e
              · cases e
            · cases e
        · cases e
      · cases e
    · cases e
theorem mi_ret_inv {rt : Option FieldType} (e : mi_ret rt st h = some N) : ∃ ty v, rt = some ty ∧ st = [.int v] ∧ narrow ty (.int v) = .int v ∧ N = .inr (.inr (some (.int v), h)) := by
  unfold mi_ret at e
  split at e
  · cases e; exact ⟨_, _, rfl, rfl, rfl, rfl⟩
  · split at e
    · rename_i q; cases e; exact ⟨_, _, rfl, rfl, by simp only [narrow]; rw [q], rfl⟩
    · cases e
  · cases e
theorem mi_aret_inv {rt : Option FieldType} (e : mi_aret rt st h = some N) : ∃ C v, rt = some (.object C) ∧ st = [v] ∧ (v = .null ∨ ∃ a, v = .ref a) ∧ N = .inr (.inr (some v, h)) := by
  unfold mi_aret at e
  split at e
  · cases e; exact ⟨_, _, rfl, rfl, Or.inr ⟨_, rfl⟩, rfl⟩
  · cases e; exact ⟨_, _, rfl, rfl, Or.inl rfl, rfl⟩
  · cases e
theorem mi_vret_inv {rt : Option FieldType} (e : mi_vret rt st h = some N) : rt = none ∧ st = [] ∧ N = .inr (.inr (none, h)) := by
  unfold mi_vret at e
  split at e
  · cases e; exact ⟨rfl, rfl, rfl⟩
  · cases e
end INV
/-- what is carried and stored points into the heap -/
def mi_ok (n : Nat) : Value → Prop
  | .ref k => k < n
  | .int _ => True
  | .null => True
  | .retAddr _ => True
  | _ => False
def mi_okc (n : Nat) : mi_C → Prop
  | .inl (_, fs) => ∀ v ∈ fs, mi_ok n v
  | .inr (_, .inl _) => True
  | .inr (_, .inr rs) => ∀ k, some k ∈ rs → k < n
def mi_okh (n : Nat) (h : mi_H) : Prop := ∀ c ∈ h, mi_okc n c
def mi_okF (nL : Nat) (F : mi_F) : Prop := F.2.1.length = nL ∧ (∀ v, some v ∈ F.2.1 → mi_ok F.2.2.2.length v) ∧ (∀ v ∈ F.2.2.1, mi_ok F.2.2.2.length v) ∧ mi_okh F.2.2.2.length F.2.2.2
def mi_szc : mi_C → Nat
  | .inl (_, fs) => fs.length
  | .inr (_, .inl xs) => xs.length
  | .inr (_, .inr xs) => xs.length
def mi_sz (h : mi_H) : Nat := (h.map mi_szc).sum
theorem mi_ok_mono {n m : Nat} (hnm : n ≤ m) {v : Value} (h : mi_ok n v) : mi_ok m v := by
  cases v <;> first | exact h | exact Nat.lt_of_lt_of_le h hnm
theorem mi_okc_mono {n m : Nat} (hnm : n ≤ m) {c : mi_C} (h : mi_okc n c) : mi_okc m c := by
  obtain ⟨ci, fs⟩ | ⟨t, xs | xs⟩ := c
  · exact fun v hv => mi_ok_mono hnm (h v hv)
  · trivial
  · exact fun k hk => Nat.lt_of_lt_of_le (h k hk) hnm
theorem mi_okh_mono {n m : Nat} (hnm : n ≤ m) {h : mi_H} (hh : mi_okh n h) : mi_okh m h := fun c hc => mi_okc_mono hnm (hh c hc)
theorem mi_okh_get {n : Nat} {h : mi_H} (hh : mi_okh n h) {a : Nat} {c : mi_C} (e : h[a]? = some c) : mi_okc n c := hh c (List.mem_of_getElem? e)
theorem mi_okh_set {n : Nat} {h : mi_H} (hh : mi_okh n h) {a : Nat} {c : mi_C} (e : mi_okc n c) : mi_okh n (h.set a c) := fun x hx => by
  rcases List.mem_or_eq_of_mem_set hx with q | q
  · exact hh x q
  · rw [q]; exact e
theorem mi_okL_set {n k : Nat} {L : List (Option Value)} (hL : ∀ v, some v ∈ L → mi_ok n v) {v : Value} (hv : mi_ok n v) : ∀ w, some w ∈ L.set k (some v) → mi_ok n w := fun w hw => by
  rcases List.mem_or_eq_of_mem_set hw with q | q
  · exact hL w q
  · cases q; exact hv
theorem mi_sz_set {h : mi_H} {a : Nat} {c0 c : mi_C} (e : h[a]? = some c0) (hs : mi_szc c = mi_szc c0) : mi_sz (h.set a c) = mi_sz h := by
  unfold mi_sz
  congr 1
  apply List.ext_getElem?
  intro j
  rw [List.getElem?_map, List.getElem?_map, List.getElem?_set]
  split
  · rename_i q; subst q
    obtain ⟨hl, hv⟩ := List.getElem?_eq_some_iff.mp e
    simp [hl, hv, hs]
  · rfl
theorem mi_sz_push {h : mi_H} {c : mi_C} : mi_sz (h ++ [c]) = mi_sz h + mi_szc c := by simp [mi_sz]
/-- the invariant of a step -/
def mi_okN (nL : Nat) (h : mi_H) : mi_N → Prop
  | .inl F => mi_okF nL F ∧ h.length ≤ F.2.2.2.length ∧ mi_sz h ≤ mi_sz F.2.2.2
  | .inr (.inl (_, as, F)) => mi_okF nL F ∧ F.2.2.2 = h ∧ ∀ v ∈ as, mi_ok h.length v
  | .inr (.inr (r, h')) => h' = h ∧ ∀ v, r = some v → mi_ok h.length v
