/-! HOW A RUN OF THE MINI MACHINE IS WALKED: a rule an instruction -/
def mi_W (d : Nat) (X : mi_M) (F : mi_F) (Q : Option Value → mi_H → Prop) : Prop := ∃ n r h', mi_it (mi_Ca d) X n F r h' ∧ Q r h'
def mi_WC (d k : Nat) (as : List Value) (h : mi_H) (Q : Option Value → mi_H → Prop) : Prop := ∃ r h', mi_Ca d k as h r h' ∧ Q r h'
theorem mi_W.step {d : Nat} {X : mi_M} {F F' : mi_F} {Q : Option Value → mi_H → Prop} (e : mi_st X F = some (.inl F')) (k : mi_W d X F' Q) : mi_W d X F Q := by
  obtain ⟨n, r, h', a, b⟩ := k
  refine ⟨n + 1, r, h', ?_, b⟩
  unfold mi_it
  rw [e]
  exact a
theorem mi_W.call {d : Nat} {X : mi_M} {F F' : mi_F} {k : Nat} {as : List Value} {Q Q' : Option Value → mi_H → Prop} (e : mi_st X F = some (.inr (.inl (k, as, F')))) (hc : mi_WC d k as F'.2.2.2 Q') (kk : ∀ r h, Q' r h → mi_W d X (F'.1, F'.2.1, r.toList ++ F'.2.2.1, h) Q) : mi_W d X F Q := by
  obtain ⟨r1, h1, c1, c2⟩ := hc
  obtain ⟨n, r, h', a, b⟩ := kk r1 h1 c2
  refine ⟨n + 1, r, h', ?_, b⟩
  unfold mi_it
  rw [e]
  exact ⟨r1, h1, c1, a⟩
theorem mi_W.ret {d : Nat} {X : mi_M} {F : mi_F} {r : Option Value} {h : mi_H} {Q : Option Value → mi_H → Prop} (e : mi_st X F = some (.inr (.inr (r, h)))) (q : Q r h) : mi_W d X F Q := by
  refine ⟨1, r, h, ?_, q⟩
  unfold mi_it
  rw [e]
  exact ⟨rfl, rfl⟩
theorem mi_W.post {d : Nat} {X : mi_M} {F : mi_F} {Q Q' : Option Value → mi_H → Prop} (k : mi_W d X F Q) (h : ∀ r h, Q r h → Q' r h) : mi_W d X F Q' := by
  obtain ⟨n, r, h', a, b⟩ := k
  exact ⟨n, r, h', a, h _ _ b⟩
theorem mi_WC.post {d k : Nat} {as : List Value} {h : mi_H} {Q Q' : Option Value → mi_H → Prop} (q : mi_WC d k as h Q) (hh : ∀ r h, Q r h → Q' r h) : mi_WC d k as h Q' := by
  obtain ⟨r, h', a, b⟩ := q
  exact ⟨r, h', a, hh _ _ b⟩
theorem mi_WC.mono {d e k : Nat} {as : List Value} {h : mi_H} {Q : Option Value → mi_H → Prop} (q : mi_WC d k as h Q) (hd : d ≤ e) : mi_WC e k as h Q := by
  obtain ⟨r, h', a, b⟩ := q
  exact ⟨r, h', mi_Ca_mono d e k as h r h' hd a, b⟩
theorem mi_WC.of {d k : Nat} {X : mi_M} {as : List Value} {h : mi_H} {Q : Option Value → mi_H → Prop} (hX : mi_L[k]? = some X) (hl : as.length ≤ X.2.2.2.1) (q : mi_W d X (mi_en X as h) Q) : mi_WC (d + 1) k as h Q := by
  obtain ⟨n, r, h', a, b⟩ := q
  exact ⟨r, h', ⟨X, n, hX, hl, a⟩, b⟩
section WP
variable {d : Nat} {X : mi_M} {pc : Nat} {L : List (Option Value)} {st : List Value} {h : mi_H} {Q : Option Value → mi_H → Prop}
theorem mi_stp {i : Instr} {n : Nat} {N : mi_N} (hl : mi_look X.1 pc = some (i, n)) (e : mi_op X i n pc L st h = some N) : mi_st X (pc, L, st, h) = some N := by
  unfold mi_st
  dsimp only
  rw [hl]
  exact e
theorem w_iconst {n : Int} (hl : mi_look X.1 pc = some (.iconst n, 1))  (k : mi_W d X (pc + 1, L, .int (Int32.ofInt n) :: st, h) Q) : mi_W d X (pc, L, st, h) Q := mi_W.step (mi_stp hl (rfl)) k
theorem w_bipush {n : Int} (hl : mi_look X.1 pc = some (.bipush n, 2))  (k : mi_W d X (pc + 2, L, .int (Int8.ofInt n).toInt32 :: st, h) Q) : mi_W d X (pc, L, st, h) Q := mi_W.step (mi_stp hl (rfl)) k
theorem w_sipush {n : Int} (hl : mi_look X.1 pc = some (.sipush n, 3))  (k : mi_W d X (pc + 3, L, .int (Int16.ofInt n).toInt32 :: st, h) Q) : mi_W d X (pc, L, st, h) Q := mi_W.step (mi_stp hl (rfl)) k
theorem w_iconstv {n : Int} {v : Int32} (hl : mi_look X.1 pc = some (.iconst n, 1)) (hv : Int32.ofInt n = v) (k : mi_W d X (pc + 1, L, .int v :: st, h) Q) : mi_W d X (pc, L, st, h) Q := mi_W.step (mi_stp hl (by rw [← hv]; rfl)) k
theorem w_bipushv {n : Int} {v : Int32} (hl : mi_look X.1 pc = some (.bipush n, 2)) (hv : (Int8.ofInt n).toInt32 = v) (k : mi_W d X (pc + 2, L, .int v :: st, h) Q) : mi_W d X (pc, L, st, h) Q := mi_W.step (mi_stp hl (by rw [← hv]; rfl)) k
theorem w_sipushv {n : Int} {v : Int32} (hl : mi_look X.1 pc = some (.sipush n, 3)) (hv : (Int16.ofInt n).toInt32 = v) (k : mi_W d X (pc + 3, L, .int v :: st, h) Q) : mi_W d X (pc, L, st, h) Q := mi_W.step (mi_stp hl (by rw [← hv]; rfl)) k
theorem w_null  (hl : mi_look X.1 pc = some (.aconst_null, 1))  (k : mi_W d X (pc + 1, L, .null :: st, h) Q) : mi_W d X (pc, L, st, h) Q := mi_W.step (mi_stp hl (rfl)) k
theorem w_iload {i : Nat} {x : Int32} (hl : mi_look X.1 pc = some (.iload i, 2)) (hv : L[i]? = some (some (.int x))) (k : mi_W d X (pc + 2, L, .int x :: st, h) Q) : mi_W d X (pc, L, st, h) Q := mi_W.step (mi_stp hl (by simp only [mi_op, mi_iload, hv])) k
theorem w_iload_n {i : Fin 4} {x : Int32} (hl : mi_look X.1 pc = some (.iload_n i, 1)) (hv : L[(i : Nat)]? = some (some (.int x))) (k : mi_W d X (pc + 1, L, .int x :: st, h) Q) : mi_W d X (pc, L, st, h) Q := mi_W.step (mi_stp hl (by simp only [mi_op, mi_iload, hv])) k
theorem w_aload {i : Nat} {x : Nat} (hl : mi_look X.1 pc = some (.aload i, 2)) (hv : L[i]? = some (some (.ref x))) (k : mi_W d X (pc + 2, L, .ref x :: st, h) Q) : mi_W d X (pc, L, st, h) Q := mi_W.step (mi_stp hl (by simp only [mi_op, mi_aload, hv])) k
theorem w_aload_n {i : Fin 4} {x : Nat} (hl : mi_look X.1 pc = some (.aload_n i, 1)) (hv : L[(i : Nat)]? = some (some (.ref x))) (k : mi_W d X (pc + 1, L, .ref x :: st, h) Q) : mi_W d X (pc, L, st, h) Q := mi_W.step (mi_stp hl (by simp only [mi_op, mi_aload, hv])) k
theorem w_aloadN {i : Nat} (hl : mi_look X.1 pc = some (.aload i, 2)) (hv : L[i]? = some (some .null)) (k : mi_W d X (pc + 2, L, .null :: st, h) Q) : mi_W d X (pc, L, st, h) Q := mi_W.step (mi_stp hl (by simp only [mi_op, mi_aload, hv])) k
theorem w_aload_nN {i : Fin 4} (hl : mi_look X.1 pc = some (.aload_n i, 1)) (hv : L[(i : Nat)]? = some (some .null)) (k : mi_W d X (pc + 1, L, .null :: st, h) Q) : mi_W d X (pc, L, st, h) Q := mi_W.step (mi_stp hl (by simp only [mi_op, mi_aload, hv])) k
theorem w_istore {i : Nat} {x : Int32} (hl : mi_look X.1 pc = some (.istore i, 2)) (hk : i < L.length) (k : mi_W d X (pc + 2, (L.set i (some (.int x))), st, h) Q) : mi_W d X (pc, L, .int x :: st, h) Q := mi_W.step (mi_stp hl (by simp only [mi_op, mi_istore, if_pos hk])) k
theorem w_istore_n {i : Fin 4} {x : Int32} (hl : mi_look X.1 pc = some (.istore_n i, 1)) (hk : (i : Nat) < L.length) (k : mi_W d X (pc + 1, (L.set (i : Nat) (some (.int x))), st, h) Q) : mi_W d X (pc, L, .int x :: st, h) Q := mi_W.step (mi_stp hl (by simp only [mi_op, mi_istore, if_pos hk])) k
theorem w_astore {i : Nat} {x : Nat} (hl : mi_look X.1 pc = some (.astore i, 2)) (hk : i < L.length) (k : mi_W d X (pc + 2, (L.set i (some (.ref x))), st, h) Q) : mi_W d X (pc, L, .ref x :: st, h) Q := mi_W.step (mi_stp hl (by simp only [mi_op, mi_astore, if_pos hk])) k
theorem w_astore_n {i : Fin 4} {x : Nat} (hl : mi_look X.1 pc = some (.astore_n i, 1)) (hk : (i : Nat) < L.length) (k : mi_W d X (pc + 1, (L.set (i : Nat) (some (.ref x))), st, h) Q) : mi_W d X (pc, L, .ref x :: st, h) Q := mi_W.step (mi_stp hl (by simp only [mi_op, mi_astore, if_pos hk])) k
theorem w_astoreN {i : Nat} (hl : mi_look X.1 pc = some (.astore i, 2)) (hk : i < L.length) (k : mi_W d X (pc + 2, (L.set i (some .null)), st, h) Q) : mi_W d X (pc, L, .null :: st, h) Q := mi_W.step (mi_stp hl (by simp only [mi_op, mi_astore, if_pos hk])) k
theorem w_astore_nN {i : Fin 4} (hl : mi_look X.1 pc = some (.astore_n i, 1)) (hk : (i : Nat) < L.length) (k : mi_W d X (pc + 1, (L.set (i : Nat) (some .null)), st, h) Q) : mi_W d X (pc, L, .null :: st, h) Q := mi_W.step (mi_stp hl (by simp only [mi_op, mi_astore, if_pos hk])) k
theorem w_iinc {i : Nat} {c : Int} {x : Int32} (hl : mi_look X.1 pc = some (.iinc i c, 3)) (hv : L[i]? = some (some (.int x))) (k : mi_W d X (pc + 3, (L.set i (some (.int (x + Int32.ofInt c)))), st, h) Q) : mi_W d X (pc, L, st, h) Q := mi_W.step (mi_stp hl (by simp only [mi_op, mi_iinc, hv])) k
theorem w_iadd {x y : Int32} (hl : mi_look X.1 pc = some (.iadd, 1))  (k : mi_W d X (pc + 1, L, .int (x + y) :: st, h) Q) : mi_W d X (pc, L, .int y :: .int x :: st, h) Q := mi_W.step (mi_stp hl (rfl)) k
theorem w_isub {x y : Int32} (hl : mi_look X.1 pc = some (.isub, 1))  (k : mi_W d X (pc + 1, L, .int (x - y) :: st, h) Q) : mi_W d X (pc, L, .int y :: .int x :: st, h) Q := mi_W.step (mi_stp hl (rfl)) k
theorem w_imul {x y : Int32} (hl : mi_look X.1 pc = some (.imul, 1))  (k : mi_W d X (pc + 1, L, .int (x * y) :: st, h) Q) : mi_W d X (pc, L, .int y :: .int x :: st, h) Q := mi_W.step (mi_stp hl (rfl)) k
theorem w_iand {x y : Int32} (hl : mi_look X.1 pc = some (.iand, 1))  (k : mi_W d X (pc + 1, L, .int (x &&& y) :: st, h) Q) : mi_W d X (pc, L, .int y :: .int x :: st, h) Q := mi_W.step (mi_stp hl (rfl)) k
theorem w_ior {x y : Int32} (hl : mi_look X.1 pc = some (.ior, 1))  (k : mi_W d X (pc + 1, L, .int (x ||| y) :: st, h) Q) : mi_W d X (pc, L, .int y :: .int x :: st, h) Q := mi_W.step (mi_stp hl (rfl)) k
theorem w_ixor {x y : Int32} (hl : mi_look X.1 pc = some (.ixor, 1))  (k : mi_W d X (pc + 1, L, .int (x ^^^ y) :: st, h) Q) : mi_W d X (pc, L, .int y :: .int x :: st, h) Q := mi_W.step (mi_stp hl (rfl)) k
theorem w_ishl {x y : Int32} (hl : mi_look X.1 pc = some (.ishl, 1))  (k : mi_W d X (pc + 1, L, .int (x <<< (y &&& 31)) :: st, h) Q) : mi_W d X (pc, L, .int y :: .int x :: st, h) Q := mi_W.step (mi_stp hl (rfl)) k
theorem w_ishr {x y : Int32} (hl : mi_look X.1 pc = some (.ishr, 1))  (k : mi_W d X (pc + 1, L, .int (x >>> (y &&& 31)) :: st, h) Q) : mi_W d X (pc, L, .int y :: .int x :: st, h) Q := mi_W.step (mi_stp hl (rfl)) k
theorem w_iushr {x y : Int32} (hl : mi_look X.1 pc = some (.iushr, 1))  (k : mi_W d X (pc + 1, L, .int ((x.toUInt32 >>> (y.toUInt32 &&& Int32.toUInt32 31)).toInt32) :: st, h) Q) : mi_W d X (pc, L, .int y :: .int x :: st, h) Q := mi_W.step (mi_stp hl (rfl)) k
theorem w_idiv {x y : Int32} (hl : mi_look X.1 pc = some (.idiv, 1)) (hy : ¬ y = 0) (k : mi_W d X (pc + 1, L, .int (x / y) :: st, h) Q) : mi_W d X (pc, L, .int y :: .int x :: st, h) Q := mi_W.step (mi_stp hl (by simp only [mi_op, mi_div, if_neg hy])) k
theorem w_irem {x y : Int32} (hl : mi_look X.1 pc = some (.irem, 1)) (hy : ¬ y = 0) (k : mi_W d X (pc + 1, L, .int (x - x / y * y) :: st, h) Q) : mi_W d X (pc, L, .int y :: .int x :: st, h) Q := mi_W.step (mi_stp hl (by simp only [mi_op, mi_div, if_neg hy])) k
theorem w_ineg {x : Int32} (hl : mi_look X.1 pc = some (.ineg, 1))  (k : mi_W d X (pc + 1, L, .int (-x) :: st, h) Q) : mi_W d X (pc, L, .int x :: st, h) Q := mi_W.step (mi_stp hl (rfl)) k
theorem w_dup {v : Value} (hl : mi_look X.1 pc = some (.dup, 1)) (hc : v.category = 1) (k : mi_W d X (pc + 1, L, v :: v :: st, h) Q) : mi_W d X (pc, L, v :: st, h) Q := mi_W.step (mi_stp hl (by simp only [mi_op, if_pos hc])) k
theorem w_dup2 {v w : Value} (hl : mi_look X.1 pc = some (.dup2, 1)) (hc : v.category = 1 ∧ w.category = 1) (k : mi_W d X (pc + 1, L, v :: w :: v :: w :: st, h) Q) : mi_W d X (pc, L, v :: w :: st, h) Q := mi_W.step (mi_stp hl (by simp only [mi_op, if_pos hc])) k
theorem w_pop {v : Value} (hl : mi_look X.1 pc = some (.pop, 1)) (hc : v.category = 1) (k : mi_W d X (pc + 1, L, st, h) Q) : mi_W d X (pc, L, v :: st, h) Q := mi_W.step (mi_stp hl (by simp only [mi_op, if_pos hc])) k
theorem mi_goto_to {off : Int} {t : Nat} (ht : (pc : Int) + off = (t : Int)) : mi_goto pc off L st h = some (.inl (t, L, st, h)) := by
  unfold mi_goto
  rw [ht, if_pos (Int.natCast_nonneg t)]
  rfl
theorem w_goto {off : Int} (hl : mi_look X.1 pc = some (.goto off, 3)) (t : Nat) (ht : (pc : Int) + off = (t : Int)) (k : mi_W d X (t, L, st, h) Q) : mi_W d X (pc, L, st, h) Q := mi_W.step (mi_stp hl (mi_goto_to ht)) k
theorem w_if_eq {x : Int32} {off : Int} (hl : mi_look X.1 pc = some (.ifCond .eq off, 3)) (t : Nat) (ht : (pc : Int) + off = (t : Int)) (kt : x = 0 → mi_W d X (t, L, st, h) Q) (kf : ¬ x = 0 → mi_W d X (pc + 3, L, st, h) Q) : mi_W d X (pc, L, .int x :: st, h) Q := by
  have e : Op.ifCond.holds .eq x = true ↔ x = 0 := by simp [Op.ifCond.holds, Op.if_icmp.holds]
  by_cases z : Op.ifCond.holds .eq x = true
  · exact mi_W.step (mi_stp hl (by simp only [mi_op, mi_if1, if_pos z]; exact mi_goto_to ht)) (kt (e.mp z))
  · exact mi_W.step (mi_stp hl (by simp only [mi_op, mi_if1, if_neg z])) (kf (by have q := (not_congr e).mp z; first | exact q | exact Decidable.not_not.mp q))
theorem w_icmp_eq {x y : Int32} {off : Int} (hl : mi_look X.1 pc = some (.if_icmp .eq off, 3)) (t : Nat) (ht : (pc : Int) + off = (t : Int)) (kt : x = y → mi_W d X (t, L, st, h) Q) (kf : ¬ x = y → mi_W d X (pc + 3, L, st, h) Q) : mi_W d X (pc, L, .int y :: .int x :: st, h) Q := by
  have e : Op.if_icmp.holds .eq x y = true ↔ x = y := by simp [Op.ifCond.holds, Op.if_icmp.holds]
  by_cases z : Op.if_icmp.holds .eq x y = true
  · exact mi_W.step (mi_stp hl (by simp only [mi_op, mi_if2, if_pos z]; exact mi_goto_to ht)) (kt (e.mp z))
  · exact mi_W.step (mi_stp hl (by simp only [mi_op, mi_if2, if_neg z])) (kf (by have q := (not_congr e).mp z; first | exact q | exact Decidable.not_not.mp q))
theorem w_if_ne {x : Int32} {off : Int} (hl : mi_look X.1 pc = some (.ifCond .ne off, 3)) (t : Nat) (ht : (pc : Int) + off = (t : Int)) (kt : ¬ x = 0 → mi_W d X (t, L, st, h) Q) (kf : x = 0 → mi_W d X (pc + 3, L, st, h) Q) : mi_W d X (pc, L, .int x :: st, h) Q := by
  have e : Op.ifCond.holds .ne x = true ↔ ¬ x = 0 := by simp [Op.ifCond.holds, Op.if_icmp.holds]
  by_cases z : Op.ifCond.holds .ne x = true
  · exact mi_W.step (mi_stp hl (by simp only [mi_op, mi_if1, if_pos z]; exact mi_goto_to ht)) (kt (e.mp z))
  · exact mi_W.step (mi_stp hl (by simp only [mi_op, mi_if1, if_neg z])) (kf (by have q := (not_congr e).mp z; first | exact q | exact Decidable.not_not.mp q))
theorem w_icmp_ne {x y : Int32} {off : Int} (hl : mi_look X.1 pc = some (.if_icmp .ne off, 3)) (t : Nat) (ht : (pc : Int) + off = (t : Int)) (kt : ¬ x = y → mi_W d X (t, L, st, h) Q) (kf : x = y → mi_W d X (pc + 3, L, st, h) Q) : mi_W d X (pc, L, .int y :: .int x :: st, h) Q := by
  have e : Op.if_icmp.holds .ne x y = true ↔ ¬ x = y := by simp [Op.ifCond.holds, Op.if_icmp.holds]
  by_cases z : Op.if_icmp.holds .ne x y = true
  · exact mi_W.step (mi_stp hl (by simp only [mi_op, mi_if2, if_pos z]; exact mi_goto_to ht)) (kt (e.mp z))
  · exact mi_W.step (mi_stp hl (by simp only [mi_op, mi_if2, if_neg z])) (kf (by have q := (not_congr e).mp z; first | exact q | exact Decidable.not_not.mp q))
theorem w_if_lt {x : Int32} {off : Int} (hl : mi_look X.1 pc = some (.ifCond .lt off, 3)) (t : Nat) (ht : (pc : Int) + off = (t : Int)) (kt : x < 0 → mi_W d X (t, L, st, h) Q) (kf : ¬ x < 0 → mi_W d X (pc + 3, L, st, h) Q) : mi_W d X (pc, L, .int x :: st, h) Q := by
  have e : Op.ifCond.holds .lt x = true ↔ x < 0 := by simp [Op.ifCond.holds, Op.if_icmp.holds]
  by_cases z : Op.ifCond.holds .lt x = true
  · exact mi_W.step (mi_stp hl (by simp only [mi_op, mi_if1, if_pos z]; exact mi_goto_to ht)) (kt (e.mp z))
  · exact mi_W.step (mi_stp hl (by simp only [mi_op, mi_if1, if_neg z])) (kf (by have q := (not_congr e).mp z; first | exact q | exact Decidable.not_not.mp q))
theorem w_icmp_lt {x y : Int32} {off : Int} (hl : mi_look X.1 pc = some (.if_icmp .lt off, 3)) (t : Nat) (ht : (pc : Int) + off = (t : Int)) (kt : x < y → mi_W d X (t, L, st, h) Q) (kf : ¬ x < y → mi_W d X (pc + 3, L, st, h) Q) : mi_W d X (pc, L, .int y :: .int x :: st, h) Q := by
  have e : Op.if_icmp.holds .lt x y = true ↔ x < y := by simp [Op.ifCond.holds, Op.if_icmp.holds]
  by_cases z : Op.if_icmp.holds .lt x y = true
  · exact mi_W.step (mi_stp hl (by simp only [mi_op, mi_if2, if_pos z]; exact mi_goto_to ht)) (kt (e.mp z))
  · exact mi_W.step (mi_stp hl (by simp only [mi_op, mi_if2, if_neg z])) (kf (by have q := (not_congr e).mp z; first | exact q | exact Decidable.not_not.mp q))
theorem w_if_ge {x : Int32} {off : Int} (hl : mi_look X.1 pc = some (.ifCond .ge off, 3)) (t : Nat) (ht : (pc : Int) + off = (t : Int)) (kt : 0 ≤ x → mi_W d X (t, L, st, h) Q) (kf : ¬ 0 ≤ x → mi_W d X (pc + 3, L, st, h) Q) : mi_W d X (pc, L, .int x :: st, h) Q := by
  have e : Op.ifCond.holds .ge x = true ↔ 0 ≤ x := by simp [Op.ifCond.holds, Op.if_icmp.holds]
  by_cases z : Op.ifCond.holds .ge x = true
  · exact mi_W.step (mi_stp hl (by simp only [mi_op, mi_if1, if_pos z]; exact mi_goto_to ht)) (kt (e.mp z))
  · exact mi_W.step (mi_stp hl (by simp only [mi_op, mi_if1, if_neg z])) (kf (by have q := (not_congr e).mp z; first | exact q | exact Decidable.not_not.mp q))
theorem w_icmp_ge {x y : Int32} {off : Int} (hl : mi_look X.1 pc = some (.if_icmp .ge off, 3)) (t : Nat) (ht : (pc : Int) + off = (t : Int)) (kt : y ≤ x → mi_W d X (t, L, st, h) Q) (kf : ¬ y ≤ x → mi_W d X (pc + 3, L, st, h) Q) : mi_W d X (pc, L, .int y :: .int x :: st, h) Q := by
  have e : Op.if_icmp.holds .ge x y = true ↔ y ≤ x := by simp [Op.ifCond.holds, Op.if_icmp.holds]
  by_cases z : Op.if_icmp.holds .ge x y = true
  · exact mi_W.step (mi_stp hl (by simp only [mi_op, mi_if2, if_pos z]; exact mi_goto_to ht)) (kt (e.mp z))
  · exact mi_W.step (mi_stp hl (by simp only [mi_op, mi_if2, if_neg z])) (kf (by have q := (not_congr e).mp z; first | exact q | exact Decidable.not_not.mp q))
theorem w_if_gt {x : Int32} {off : Int} (hl : mi_look X.1 pc = some (.ifCond .gt off, 3)) (t : Nat) (ht : (pc : Int) + off = (t : Int)) (kt : 0 < x → mi_W d X (t, L, st, h) Q) (kf : ¬ 0 < x → mi_W d X (pc + 3, L, st, h) Q) : mi_W d X (pc, L, .int x :: st, h) Q := by
  have e : Op.ifCond.holds .gt x = true ↔ 0 < x := by simp [Op.ifCond.holds, Op.if_icmp.holds]
  by_cases z : Op.ifCond.holds .gt x = true
  · exact mi_W.step (mi_stp hl (by simp only [mi_op, mi_if1, if_pos z]; exact mi_goto_to ht)) (kt (e.mp z))
  · exact mi_W.step (mi_stp hl (by simp only [mi_op, mi_if1, if_neg z])) (kf (by have q := (not_congr e).mp z; first | exact q | exact Decidable.not_not.mp q))
theorem w_icmp_gt {x y : Int32} {off : Int} (hl : mi_look X.1 pc = some (.if_icmp .gt off, 3)) (t : Nat) (ht : (pc : Int) + off = (t : Int)) (kt : y < x → mi_W d X (t, L, st, h) Q) (kf : ¬ y < x → mi_W d X (pc + 3, L, st, h) Q) : mi_W d X (pc, L, .int y :: .int x :: st, h) Q := by
  have e : Op.if_icmp.holds .gt x y = true ↔ y < x := by simp [Op.ifCond.holds, Op.if_icmp.holds]
  by_cases z : Op.if_icmp.holds .gt x y = true
  · exact mi_W.step (mi_stp hl (by simp only [mi_op, mi_if2, if_pos z]; exact mi_goto_to ht)) (kt (e.mp z))
  · exact mi_W.step (mi_stp hl (by simp only [mi_op, mi_if2, if_neg z])) (kf (by have q := (not_congr e).mp z; first | exact q | exact Decidable.not_not.mp q))
theorem w_if_le {x : Int32} {off : Int} (hl : mi_look X.1 pc = some (.ifCond .le off, 3)) (t : Nat) (ht : (pc : Int) + off = (t : Int)) (kt : x ≤ 0 → mi_W d X (t, L, st, h) Q) (kf : ¬ x ≤ 0 → mi_W d X (pc + 3, L, st, h) Q) : mi_W d X (pc, L, .int x :: st, h) Q := by
  have e : Op.ifCond.holds .le x = true ↔ x ≤ 0 := by simp [Op.ifCond.holds, Op.if_icmp.holds]
  by_cases z : Op.ifCond.holds .le x = true
  · exact mi_W.step (mi_stp hl (by simp only [mi_op, mi_if1, if_pos z]; exact mi_goto_to ht)) (kt (e.mp z))
  · exact mi_W.step (mi_stp hl (by simp only [mi_op, mi_if1, if_neg z])) (kf (by have q := (not_congr e).mp z; first | exact q | exact Decidable.not_not.mp q))
theorem w_icmp_le {x y : Int32} {off : Int} (hl : mi_look X.1 pc = some (.if_icmp .le off, 3)) (t : Nat) (ht : (pc : Int) + off = (t : Int)) (kt : x ≤ y → mi_W d X (t, L, st, h) Q) (kf : ¬ x ≤ y → mi_W d X (pc + 3, L, st, h) Q) : mi_W d X (pc, L, .int y :: .int x :: st, h) Q := by
  have e : Op.if_icmp.holds .le x y = true ↔ x ≤ y := by simp [Op.ifCond.holds, Op.if_icmp.holds]
  by_cases z : Op.if_icmp.holds .le x y = true
  · exact mi_W.step (mi_stp hl (by simp only [mi_op, mi_if2, if_pos z]; exact mi_goto_to ht)) (kt (e.mp z))
  · exact mi_W.step (mi_stp hl (by simp only [mi_op, mi_if2, if_neg z])) (kf (by have q := (not_congr e).mp z; first | exact q | exact Decidable.not_not.mp q))
theorem w_ifnull {off : Int} {x : Nat} (hl : mi_look X.1 pc = some (.ifnull off, 3)) (k : mi_W d X (pc + 3, L, st, h) Q) : mi_W d X (pc, L, .ref x :: st, h) Q := mi_W.step (mi_stp hl rfl) k
theorem w_ifnullN {off : Int} (hl : mi_look X.1 pc = some (.ifnull off, 3)) (t : Nat) (ht : (pc : Int) + off = (t : Int)) (k : mi_W d X (t, L, st, h) Q) : mi_W d X (pc, L, .null :: st, h) Q := mi_W.step (mi_stp hl (mi_goto_to ht)) k
theorem w_ifnonnull {off : Int} {x : Nat} (hl : mi_look X.1 pc = some (.ifnonnull off, 3)) (t : Nat) (ht : (pc : Int) + off = (t : Int)) (k : mi_W d X (t, L, st, h) Q) : mi_W d X (pc, L, .ref x :: st, h) Q := mi_W.step (mi_stp hl (mi_goto_to ht)) k
theorem w_ifnonnullN {off : Int} (hl : mi_look X.1 pc = some (.ifnonnull off, 3)) (k : mi_W d X (pc + 3, L, st, h) Q) : mi_W d X (pc, L, .null :: st, h) Q := mi_W.step (mi_stp hl rfl) k
theorem w_tswOut {dflt lo hi : Int} {offs : Array Int} {n : Nat} {x : Int32} (hl : mi_look X.1 pc = some (.tableswitch dflt lo hi offs, n)) (hx : x.toInt < lo ∨ hi < x.toInt) (t : Nat) (ht : (pc : Int) + dflt = (t : Int)) (k : mi_W d X (t, L, st, h) Q) : mi_W d X (pc, L, .int x :: st, h) Q := mi_W.step (mi_stp hl (by simp only [mi_op, mi_tsw, if_pos hx]; exact mi_goto_to ht)) k
theorem w_tswIn {dflt lo hi off : Int} {offs : Array Int} {n : Nat} {x : Int32} (hl : mi_look X.1 pc = some (.tableswitch dflt lo hi offs, n)) (hx : ¬ (x.toInt < lo ∨ hi < x.toInt)) (ho : offs[(x.toInt - lo).toNat]? = some off) (t : Nat) (ht : (pc : Int) + off = (t : Int)) (k : mi_W d X (t, L, st, h) Q) : mi_W d X (pc, L, .int x :: st, h) Q := mi_W.step (mi_stp hl (by simp only [mi_op, mi_tsw, if_neg hx, ho]; exact mi_goto_to ht)) k
theorem w_lsw {dflt off : Int} {ps : Array (Int × Int)} {n : Nat} {x : Int32} (hl : mi_look X.1 pc = some (.lookupswitch dflt ps, n)) (hp : (ps.toList.zip (ps.toList.drop 1)).all (fun (a, next) => a.1 < next.1) = true) (ho : Op.lookupswitch.offset ps.toList dflt x.toInt = off) (t : Nat) (ht : (pc : Int) + off = (t : Int)) (k : mi_W d X (t, L, st, h) Q) : mi_W d X (pc, L, .int x :: st, h) Q := mi_W.step (mi_stp hl (by simp only [mi_op, mi_lsw, if_pos hp, ho]; exact mi_goto_to ht)) k
theorem w_get {idx ci k a : Nat} {nest : Bool} {fs : List Value} {v : Value} (hl : mi_look X.1 pc = some (.getfield idx, 3)) (hf : ((mi_Fl[X.2.1]?).getD []).lookup idx = some (ci, k, nest)) (ha : h[a]? = some (.inl (ci, fs))) (hv : fs[k]? = some v) (kk : mi_W d X (pc + 3, L, v :: st, h) Q) : mi_W d X (pc, L, .ref a :: st, h) Q := mi_W.step (mi_stp hl (by simp only [mi_op, mi_get, hf, ha, hv, if_true])) kk
theorem w_put {idx ci k a : Nat} {nest : Bool} {fs : List Value} {v : Value} (hl : mi_look X.1 pc = some (.putfield idx, 3)) (hf : ((mi_Fl[X.2.1]?).getD []).lookup idx = some (ci, k, nest)) (ha : h[a]? = some (.inl (ci, fs))) (hk : k < fs.length) (hm : mi_may X.2.1 X.2.2.2.2.1 ci k nest v = true) (kk : mi_W d X (pc + 3, L, st, h.set a (.inl (ci, fs.set k v))) Q) : mi_W d X (pc, L, v :: .ref a :: st, h) Q := mi_W.step (mi_stp hl (by simp only [mi_op, mi_put, hf, ha]; rw [if_pos ⟨trivial, hk, hm⟩])) kk
theorem w_gets {idx j : Nat} (hl : mi_look X.1 pc = some (.getstatic idx, 3)) (hf : ((mi_Sl[X.2.1]?).getD []).lookup idx = some j) (kk : mi_W d X (pc + 3, L, .retAddr j :: st, h) Q) : mi_W d X (pc, L, st, h) Q := mi_W.step (mi_stp hl (by simp only [mi_op, mi_gets, hf])) kk
theorem w_new {idx ci : Nat} {q : String × u_T × Nat × (Nat → FieldType)} (hl : mi_look X.1 pc = some (.new idx, 3)) (hf : ((mi_Nl[X.2.1]?).getD []).lookup idx = some ci) (hq : mi_V[ci]? = some q) (kk : mi_W d X (pc + 3, L, .ref h.length :: st, h ++ [.inl (ci, (List.range q.2.2.1).map (fun k => defaultValue (q.2.2.2 k)))]) Q) : mi_W d X (pc, L, st, h) Q := mi_W.step (mi_stp hl (by simp only [mi_op, mi_new, hf, hq])) kk
theorem w_iald {i : Int32} {a : Nat} {xs : List Int32} {x : Int32} (hl : mi_look X.1 pc = some (.iaload, 1)) (ha : h[a]? = some (.inr (0, .inl xs))) (h0 : ¬ i < 0) (hx : xs[i.toNatClampNeg]? = some x) (kk : mi_W d X (pc + 1, L, .int x :: st, h) Q) : mi_W d X (pc, L, .int i :: .ref a :: st, h) Q := mi_W.step (mi_stp hl (by simp only [mi_op, mi_iald, ha, if_neg h0, hx])) kk
theorem w_ialdC {i : Int32} {j : Nat} {q : String × List Int32} {x : Int32} (hl : mi_look X.1 pc = some (.iaload, 1)) (hq : mi_Sv[j]? = some q) (h0 : ¬ i < 0) (hx : q.2[i.toNatClampNeg]? = some x) (kk : mi_W d X (pc + 1, L, .int x :: st, h) Q) : mi_W d X (pc, L, .int i :: .retAddr j :: st, h) Q := mi_W.step (mi_stp hl (by simp only [mi_op, mi_iald, hq, if_neg h0, hx])) kk
theorem w_iast {i x : Int32} {a : Nat} {xs : List Int32} (hl : mi_look X.1 pc = some (.iastore, 1)) (ha : h[a]? = some (.inr (0, .inl xs))) (h0 : ¬ i < 0) (hx : i.toNatClampNeg < xs.length) (kk : mi_W d X (pc + 1, L, st, h.set a (.inr (0, .inl (xs.set i.toNatClampNeg x)))) Q) : mi_W d X (pc, L, .int x :: .int i :: .ref a :: st, h) Q := mi_W.step (mi_stp hl (by simp only [mi_op, mi_iast, ha]; rw [if_neg (fun z => z.elim h0 (Nat.not_le.mpr hx))])) kk
theorem w_bald {i : Int32} {a : Nat} {xs : List Int32} {x : Int32} (hl : mi_look X.1 pc = some (.baload, 1)) (ha : h[a]? = some (.inr (1, .inl xs))) (h0 : ¬ i < 0) (hx : xs[i.toNatClampNeg]? = some x) (kk : mi_W d X (pc + 1, L, .int x :: st, h) Q) : mi_W d X (pc, L, .int i :: .ref a :: st, h) Q := mi_W.step (mi_stp hl (by simp only [mi_op, mi_bald, ha, if_neg h0, hx])) kk
theorem w_bast {i x : Int32} {a : Nat} {xs : List Int32} (hl : mi_look X.1 pc = some (.bastore, 1)) (ha : h[a]? = some (.inr (1, .inl xs))) (h0 : ¬ i < 0) (hx : i.toNatClampNeg < xs.length) (kk : mi_W d X (pc + 1, L, st, h.set a (.inr (1, .inl (xs.set i.toNatClampNeg (x &&& 1))))) Q) : mi_W d X (pc, L, .int x :: .int i :: .ref a :: st, h) Q := mi_W.step (mi_stp hl (by simp only [mi_op, mi_bast, ha]; rw [if_neg (fun z => z.elim h0 (Nat.not_le.mpr hx))])) kk
theorem w_aald {i : Int32} {a x : Nat} {xs : List (Option Nat)} (hl : mi_look X.1 pc = some (.aaload, 1)) (ha : h[a]? = some (.inr (2, .inr xs))) (h0 : ¬ i < 0) (hx : xs[i.toNatClampNeg]? = some (some x)) (kk : mi_W d X (pc + 1, L, .ref x :: st, h) Q) : mi_W d X (pc, L, .int i :: .ref a :: st, h) Q := mi_W.step (mi_stp hl (by simp only [mi_op, mi_aald, ha, if_neg h0, hx])) kk
theorem w_aast {i : Int32} {a v : Nat} {xs : List (Option Nat)} {fs : List Value} (hl : mi_look X.1 pc = some (.aastore, 1)) (ha : h[a]? = some (.inr (2, .inr xs))) (h0 : ¬ i < 0) (hx : i.toNatClampNeg < xs.length) (hv : h[v]? = some (.inl (1, fs))) (kk : mi_W d X (pc + 1, L, st, h.set a (.inr (2, .inr (xs.set i.toNatClampNeg (some v))))) Q) : mi_W d X (pc, L, .ref v :: .int i :: .ref a :: st, h) Q := mi_W.step (mi_stp hl (by simp only [mi_op, mi_aast, ha]; rw [if_neg (fun z => z.elim h0 (Nat.not_le.mpr hx))]; simp only [hv])) kk
theorem mi_notO {kd c idx : Nat} (ho : (kd == 2 && ((mi_Ol[c]?).getD []).contains idx) = false) : ¬ (kd = 2 ∧ ((mi_Ol[c]?).getD []).contains idx = true) := by
  rintro ⟨rfl, z⟩
  rw [z] at ho
  cases ho
theorem w_callS {idx k : Nat} {nest : Bool} {Y : mi_M} {Q' : Option Value → mi_H → Prop} (hl : mi_look X.1 pc = some (.invokestatic idx, 3)) (hm : ((mi_Ml[X.2.1]?).getD []).lookup idx = some (k, nest)) (hY : mi_L[k]? = some Y) (n : Nat) (hk : Y.2.2.2.2.1 = 0 ∧ Y.2.2.2.2.2.1 = n) (hst : n ≤ st.length ∧ (st.drop n).length ≤ 8) (hc : mi_WC d k (st.take n).reverse h Q') (kk : ∀ r h', Q' r h' → mi_W d X (pc + 3, L, r.toList ++ st.drop n, h') Q) : mi_W d X (pc, L, st, h) Q := by
  obtain ⟨hk1, hk2⟩ := hk
  subst hk2
  refine mi_W.call (k := k) (as := (st.take Y.2.2.2.2.2.1).reverse) (F' := (pc + 3, L, st.drop Y.2.2.2.2.2.1, h)) (mi_stp hl ?_) hc kk
  show mi_inv 0 X.2.1 idx pc L st h = _
  unfold mi_inv
  rw [if_neg (mi_notO rfl)]
  simp only [hm, hY]
  rw [if_pos ⟨hk1, hst.1, hst.2⟩, if_pos trivial]
theorem w_callV {idx k : Nat} {nest : Bool} {Y : mi_M} {Q' : Option Value → mi_H → Prop} (hl : mi_look X.1 pc = some (.invokevirtual idx, 3)) (hm : ((mi_Ml[X.2.1]?).getD []).lookup idx = some (k, nest)) (hY : mi_L[k]? = some Y) (n : Nat) (hk : Y.2.2.2.2.1 = 1 ∧ Y.2.2.2.2.2.1 = n) {b ci : Nat} {r0 : List Value} {fs : List Value} {q : String × u_T × Nat × (Nat → FieldType)} (hst : n ≤ st.length ∧ (st.drop n).length ≤ 8) (hd : st.drop n = .ref b :: r0) (hb : h[b]? = some (.inl (ci, fs))) (hq : mi_V[ci]? = some q) (hqn : q.1 = mi_cn Y.2.1) (hc : mi_WC d k (.ref b :: (st.take n).reverse) h Q') (kk : ∀ r h', Q' r h' → mi_W d X (pc + 3, L, r.toList ++ r0, h') Q) : mi_W d X (pc, L, st, h) Q := by
  obtain ⟨hk1, hk2⟩ := hk
  subst hk2
  refine mi_W.call (k := k) (as := .ref b :: (st.take Y.2.2.2.2.2.1).reverse) (F' := (pc + 3, L, r0, h)) (mi_stp hl ?_) hc kk
  show mi_inv 1 X.2.1 idx pc L st h = _
  unfold mi_inv
  rw [if_neg (mi_notO rfl)]
  simp only [hm, hY]
  rw [if_pos ⟨hk1, hst.1, hst.2⟩, if_neg (by decide)]
  simp only [hd, hb, hq]
  rw [if_pos hqn]
theorem w_callI {idx k : Nat} {nest : Bool} {Y : mi_M} {Q' : Option Value → mi_H → Prop} (hl : mi_look X.1 pc = some (.invokespecial idx, 3)) (ho : ((mi_Ol[X.2.1]?).getD []).contains idx = false) (hm : ((mi_Ml[X.2.1]?).getD []).lookup idx = some (k, nest)) (hY : mi_L[k]? = some Y) (n : Nat) (hk : Y.2.2.2.2.1 = 2 ∧ Y.2.2.2.2.2.1 = n) {b ci : Nat} {r0 : List Value} {fs : List Value} {q : String × u_T × Nat × (Nat → FieldType)} (hst : n ≤ st.length ∧ (st.drop n).length ≤ 8) (hd : st.drop n = .ref b :: r0) (hb : h[b]? = some (.inl (ci, fs))) (hq : mi_V[ci]? = some q) (hqn : q.1 = mi_cn Y.2.1) (hc : mi_WC d k (.ref b :: (st.take n).reverse) h Q') (kk : ∀ r h', Q' r h' → mi_W d X (pc + 3, L, r.toList ++ r0, h') Q) : mi_W d X (pc, L, st, h) Q := by
  obtain ⟨hk1, hk2⟩ := hk
  subst hk2
  refine mi_W.call (k := k) (as := .ref b :: (st.take Y.2.2.2.2.2.1).reverse) (F' := (pc + 3, L, r0, h)) (mi_stp hl ?_) hc kk
  show mi_inv 2 X.2.1 idx pc L st h = _
  unfold mi_inv
  rw [if_neg (fun z => by rw [ho] at z; cases z.2)]
  simp only [hm, hY]
  rw [if_pos ⟨hk1, hst.1, hst.2⟩, if_neg (by decide)]
  simp only [hd, hb, hq]
  rw [if_pos hqn]
theorem w_objInit {idx a : Nat} (hl : mi_look X.1 pc = some (.invokespecial idx, 3)) (ho : ((mi_Ol[X.2.1]?).getD []).contains idx = true) (hst : st.length ≤ 4) (kk : mi_W d X (pc + 3, L, st, h) Q) : mi_W d X (pc, L, .ref a :: st, h) Q := by
  refine mi_W.step (mi_stp hl ?_) kk
  show mi_inv 2 X.2.1 idx pc L (.ref a :: st) h = _
  unfold mi_inv
  rw [if_pos ⟨rfl, ho⟩]
  simp only [if_pos hst]
theorem w_ireturn {x : Int32} (hl : mi_look X.1 pc = some (.ireturn, 1)) (hr : X.2.2.1 = some .int) (q : Q (some (.int x)) h) : mi_W d X (pc, L, [.int x], h) Q := mi_W.ret (mi_stp hl (by simp only [mi_op, mi_ret, hr])) q
theorem w_zreturn {x : Int32} (hl : mi_look X.1 pc = some (.ireturn, 1)) (hr : X.2.2.1 = some .boolean) (hx : x &&& 1 = x) (q : Q (some (.int x)) h) : mi_W d X (pc, L, [.int x], h) Q := mi_W.ret (mi_stp hl (by simp only [mi_op, mi_ret, hr, if_pos hx])) q
theorem w_areturn {C : String} {x : Nat} (hl : mi_look X.1 pc = some (.areturn, 1)) (hr : X.2.2.1 = some (.object C)) (q : Q (some (.ref x)) h) : mi_W d X (pc, L, [.ref x], h) Q := mi_W.ret (mi_stp hl (by simp only [mi_op, mi_aret, hr])) q
theorem w_areturnN {C : String} (hl : mi_look X.1 pc = some (.areturn, 1)) (hr : X.2.2.1 = some (.object C)) (q : Q (some .null) h) : mi_W d X (pc, L, [.null], h) Q := mi_W.ret (mi_stp hl (by simp only [mi_op, mi_aret, hr])) q
theorem w_vreturn (hl : mi_look X.1 pc = some (.return_, 1)) (hr : X.2.2.1 = none) (q : Q none h) : mi_W d X (pc, L, [], h) Q := mi_W.ret (mi_stp hl (by simp only [mi_op, mi_vret, hr])) q
end WP
/-- n steps of a body; the checks -/
def mi_run (callf : Nat → List Value → mi_H → Option (Option Value × mi_H)) (X : mi_M) : Nat → mi_F → Option mi_F
  | 0, F => some F
  | n + 1, F => match mi_st X F with
    | some (.inl F') => mi_run callf X n F'
    | some (.inr (.inl (k, as, F'))) => match callf k as F'.2.2.2 with
      | some (r1, h1) => mi_run callf X n (F'.1, F'.2.1, r1.toList ++ F'.2.2.1, h1)
      | none => none
    | _ => none
theorem mi_run_W {fuel d : Nat} {X : mi_M} {Q : Option Value → mi_H → Prop} : ∀ (n : Nat) (F F' : mi_F), mi_run (mi_Cf fuel d) X n F = some F' → mi_W d X F' Q → mi_W d X F Q := by
  intro n
  induction n with
  | zero => intro F F' e k; cases e; exact k
  | succ n ih =>
    intro F F' e k
    unfold mi_run at e
    split at e
    · rename_i F2 e2; exact mi_W.step e2 (ih _ _ e k)
    · rename_i kk as F2 e2
      split at e
      · rename_i r1 h1 e3
        refine mi_W.call (Q' := fun r h => r = r1 ∧ h = h1) e2 ⟨r1, h1, mi_Cf_ok fuel d _ _ _ _ _ e3, rfl, rfl⟩ ?_
        rintro r h ⟨rfl, rfl⟩
        exact ih _ _ e k
      · cases e
    · cases e
def mi_chk (o : Option (Option Value × mi_H)) (r : Option Value) (h : mi_H) : Bool := match o with
  | some q => decide (q.1 = r) && decide (q.2 = h)
  | none => false
theorem mi_chk_ok {o : Option (Option Value × mi_H)} {r : Option Value} {h : mi_H} (e : mi_chk o r h = true) : o = some (r, h) := by
  unfold mi_chk at e
  split at e
  · rename_i q
    obtain ⟨q1, q2⟩ := q
    simp only [Bool.and_eq_true, decide_eq_true_eq] at e
    obtain ⟨e1, e2⟩ := e
    rw [e1, e2]
  · cases e
def mi_fchk (o : Option mi_F) (F : mi_F) : Bool := match o with
  | some q => decide (q.1 = F.1) && decide (q.2.1 = F.2.1) && decide (q.2.2.1 = F.2.2.1) && decide (q.2.2.2 = F.2.2.2)
  | none => false
theorem mi_fchk_ok {o : Option mi_F} {F : mi_F} (e : mi_fchk o F = true) : o = some F := by
  unfold mi_fchk at e
  split at e
  · rename_i q
    obtain ⟨q1, q2, q3, q4⟩ := q
    obtain ⟨f1, f2, f3, f4⟩ := F
    simp only [Bool.and_eq_true, decide_eq_true_eq] at e
    obtain ⟨⟨⟨e1, e2⟩, e3⟩, e4⟩ := e
    subst e1; subst e2; subst e3; subst e4
    rfl
  · cases e
