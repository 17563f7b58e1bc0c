/-! THE MINI MACHINE: a pure machine over lists. A cell: an object (its kind's place in mi_V, its fields) or an array (0 int, 1 boolean, 2 Device; its contents). A reference is a cell's place in the heap; .retAddr j stands for the j-th constant static array. -/
abbrev mi_C : Type := (Nat × List Value) ⊕ (Nat × (List Int32 ⊕ List (Option Nat)))
abbrev mi_H : Type := List mi_C
/-- pc, locals, stack, heap -/
abbrev mi_F : Type := Nat × List (Option Value) × List Value × mi_H
/-- on; a call (who, with what, where it goes on); an end -/
abbrev mi_N : Type := mi_F ⊕ ((Nat × List Value × mi_F) ⊕ (Option Value × mi_H))
def mi_goto (pc : Nat) (off : Int) (ls : List (Option Value)) (st : List Value) (h : mi_H) : Option mi_N :=
  if 0 ≤ (pc : Int) + off then some (.inl (((pc : Int) + off).toNat, ls, st, h)) else none
def mi_bin (f : Int32 → Int32 → Int32) (pc : Nat) (ls : List (Option Value)) (st : List Value) (h : mi_H) : Option mi_N := match st with
  | .int y :: .int x :: r => some (.inl (pc + 1, ls, .int (f x y) :: r, h))
  | _ => none
def mi_div (f : Int32 → Int32 → Int32) (pc : Nat) (ls : List (Option Value)) (st : List Value) (h : mi_H) : Option mi_N := match st with
  | .int y :: .int x :: r => if y = 0 then none else some (.inl (pc + 1, ls, .int (f x y) :: r, h))
  | _ => none
def mi_iload (k n pc : Nat) (ls : List (Option Value)) (st : List Value) (h : mi_H) : Option mi_N := match ls[k]? with
  | some (some (.int x)) => some (.inl (pc + n, ls, .int x :: st, h))
  | _ => none
def mi_aload (k n pc : Nat) (ls : List (Option Value)) (st : List Value) (h : mi_H) : Option mi_N := match ls[k]? with
  | some (some (.ref x)) => some (.inl (pc + n, ls, .ref x :: st, h))
  | some (some .null) => some (.inl (pc + n, ls, .null :: st, h))
  | _ => none
def mi_istore (k n pc : Nat) (ls : List (Option Value)) (st : List Value) (h : mi_H) : Option mi_N := match st with
  | .int x :: r => if k < ls.length then some (.inl (pc + n, ls.set k (some (.int x)), r, h)) else none
  | _ => none
def mi_astore (k n pc : Nat) (ls : List (Option Value)) (st : List Value) (h : mi_H) : Option mi_N := match st with
  | .ref x :: r => if k < ls.length then some (.inl (pc + n, ls.set k (some (.ref x)), r, h)) else none
  | .null :: r => if k < ls.length then some (.inl (pc + n, ls.set k (some .null), r, h)) else none
  | _ => none
def mi_iinc (k : Nat) (d : Int) (pc : Nat) (ls : List (Option Value)) (st : List Value) (h : mi_H) : Option mi_N := match ls[k]? with
  | some (some (.int x)) => some (.inl (pc + 3, ls.set k (some (.int (x + Int32.ofInt d))), st, h))
  | _ => none
def mi_if1 (c : ClassFile.Cond) (off : Int) (pc : Nat) (ls : List (Option Value)) (st : List Value) (h : mi_H) : Option mi_N := match st with
  | .int x :: r => if Op.ifCond.holds c x = true then mi_goto pc off ls r h else some (.inl (pc + 3, ls, r, h))
  | _ => none
def mi_if2 (c : ClassFile.Cond) (off : Int) (pc : Nat) (ls : List (Option Value)) (st : List Value) (h : mi_H) : Option mi_N := match st with
  | .int y :: .int x :: r => if Op.if_icmp.holds c x y = true then mi_goto pc off ls r h else some (.inl (pc + 3, ls, r, h))
  | _ => none
def mi_ifn (b : Bool) (off : Int) (pc : Nat) (ls : List (Option Value)) (st : List Value) (h : mi_H) : Option mi_N := match st with
  | .null :: r => if b = true then mi_goto pc off ls r h else some (.inl (pc + 3, ls, r, h))
  | .ref _ :: r => if b = true then some (.inl (pc + 3, ls, r, h)) else mi_goto pc off ls r h
  | _ => none
def mi_tsw (dflt lo hi : Int) (offs : Array Int) (pc : Nat) (ls : List (Option Value)) (st : List Value) (h : mi_H) : Option mi_N := match st with
  | .int x :: r => if x.toInt < lo ∨ hi < x.toInt then mi_goto pc dflt ls r h else match offs[(x.toInt - lo).toNat]? with
    | some off => mi_goto pc off ls r h
    | none => none
  | _ => none
def mi_lsw (dflt : Int) (ps : Array (Int × Int)) (pc : Nat) (ls : List (Option Value)) (st : List Value) (h : mi_H) : Option mi_N := match st with
  | .int x :: r => if (ps.toList.zip (ps.toList.drop 1)).all (fun (a, next) => a.1 < next.1) = true then mi_goto pc (Op.lookupswitch.offset ps.toList dflt x.toInt) ls r h else none
  | _ => none
def mi_fit : FieldType → Value → Bool
  | .int, .int _ => true
  | .object _, .ref _ => true
  | .object _, .null => true
  | .array _, .ref _ => true
  | .array _, .null => true
  | _, _ => false
def mi_get (c idx pc : Nat) (ls : List (Option Value)) (st : List Value) (h : mi_H) : Option mi_N := match st with
  | .ref a :: r => match ((mi_Fl[c]?).getD []).lookup idx with
    | some (ci, k, _) => match h[a]? with
      | some (.inl (ci2, fs)) => if ci2 = ci then match fs[k]? with
          | some v => some (.inl (pc + 3, ls, v :: r, h))
          | none => none
        else none
      | _ => none
    | none => none
  | _ => none
/-- may the field be written here? its type; not final, or in the constructor of its own class -/
def mi_may (c kd ci k : Nat) (nest : Bool) (v : Value) : Bool := match mi_V[ci]? with
  | some q => mi_fit (q.2.2.2 k) v && ((q.2.1 k).2.2.2 == false || (kd == 2 && nest == false && decide (q.1 = mi_cn c)))
  | none => false
def mi_put (c kd idx pc : Nat) (ls : List (Option Value)) (st : List Value) (h : mi_H) : Option mi_N := match st with
  | v :: .ref a :: r => match ((mi_Fl[c]?).getD []).lookup idx with
    | some (ci, k, nest) => match h[a]? with
      | some (.inl (ci2, fs)) => if ci2 = ci ∧ k < fs.length ∧ mi_may c kd ci k nest v = true then some (.inl (pc + 3, ls, r, h.set a (.inl (ci, fs.set k v)))) else none
      | _ => none
    | none => none
  | _ => none
def mi_gets (c idx pc : Nat) (ls : List (Option Value)) (st : List Value) (h : mi_H) : Option mi_N := match ((mi_Sl[c]?).getD []).lookup idx with
  | some j => some (.inl (pc + 3, ls, .retAddr j :: st, h))
  | none => none
def mi_new (c idx pc : Nat) (ls : List (Option Value)) (st : List Value) (h : mi_H) : Option mi_N := match ((mi_Nl[c]?).getD []).lookup idx with
  | some ci => match mi_V[ci]? with
    | some q => some (.inl (pc + 3, ls, .ref h.length :: st, h ++ [.inl (ci, (List.range q.2.2.1).map (fun k => defaultValue (q.2.2.2 k)))]))
    | none => none
  | none => none
def mi_newa (t : Nat) (pc : Nat) (ls : List (Option Value)) (st : List Value) (h : mi_H) : Option mi_N := match st with
  | .int n :: r => if n < 0 ∨ 100000 < n.toNatClampNeg then none else some (.inl (pc + 2, ls, .ref h.length :: r, h ++ [.inr (t, .inl (List.replicate n.toNatClampNeg 0))]))
  | _ => none
def mi_newq (c idx pc : Nat) (ls : List (Option Value)) (st : List Value) (h : mi_H) : Option mi_N := match st with
  | .int n :: r => if n < 0 ∨ 100000 < n.toNatClampNeg ∨ ((mi_Nl[c]?).getD []).lookup idx ≠ some 1 then none else some (.inl (pc + 3, ls, .ref h.length :: r, h ++ [.inr (2, .inr (List.replicate n.toNatClampNeg none))]))
  | _ => none
def mi_alen (pc : Nat) (ls : List (Option Value)) (st : List Value) (h : mi_H) : Option mi_N := match st with
  | .ref a :: r => match h[a]? with
    | some (.inr (0, .inl xs)) => some (.inl (pc + 1, ls, .int (Int32.ofNat xs.length) :: r, h))
    | _ => none
  | _ => none
def mi_iald (pc : Nat) (ls : List (Option Value)) (st : List Value) (h : mi_H) : Option mi_N := match st with
  | .int i :: .ref a :: r => match h[a]? with
    | some (.inr (0, .inl xs)) => if i < 0 then none else match xs[i.toNatClampNeg]? with
      | some x => some (.inl (pc + 1, ls, .int x :: r, h))
      | none => none
    | _ => none
  | .int i :: .retAddr j :: r => match mi_Sv[j]? with
    | some q => if i < 0 then none else match q.2[i.toNatClampNeg]? with
      | some x => some (.inl (pc + 1, ls, .int x :: r, h))
      | none => none
    | none => none
  | _ => none
def mi_iast (pc : Nat) (ls : List (Option Value)) (st : List Value) (h : mi_H) : Option mi_N := match st with
  | .int x :: .int i :: .ref a :: r => match h[a]? with
    | some (.inr (0, .inl xs)) => if i < 0 ∨ xs.length ≤ i.toNatClampNeg then none else some (.inl (pc + 1, ls, r, h.set a (.inr (0, .inl (xs.set i.toNatClampNeg x)))))
    | _ => none
  | _ => none
def mi_bald (pc : Nat) (ls : List (Option Value)) (st : List Value) (h : mi_H) : Option mi_N := match st with
  | .int i :: .ref a :: r => match h[a]? with
    | some (.inr (1, .inl xs)) => if i < 0 then none else match xs[i.toNatClampNeg]? with
      | some x => some (.inl (pc + 1, ls, .int x :: r, h))
      | none => none
    | _ => none
  | _ => none
def mi_bast (pc : Nat) (ls : List (Option Value)) (st : List Value) (h : mi_H) : Option mi_N := match st with
  | .int x :: .int i :: .ref a :: r => match h[a]? with
    | some (.inr (1, .inl xs)) => if i < 0 ∨ xs.length ≤ i.toNatClampNeg then none else some (.inl (pc + 1, ls, r, h.set a (.inr (1, .inl (xs.set i.toNatClampNeg (x &&& 1))))))
    | _ => none
  | _ => none
def mi_aald (pc : Nat) (ls : List (Option Value)) (st : List Value) (h : mi_H) : Option mi_N := match st with
  | .int i :: .ref a :: r => match h[a]? with
    | some (.inr (2, .inr xs)) => if i < 0 then none else match xs[i.toNatClampNeg]? with
      | some (some x) => some (.inl (pc + 1, ls, .ref x :: r, h))
      | some none => some (.inl (pc + 1, ls, .null :: r, h))
      | none => none
    | _ => none
  | _ => none
def mi_aast (pc : Nat) (ls : List (Option Value)) (st : List Value) (h : mi_H) : Option mi_N := match st with
  | .ref v :: .int i :: .ref a :: r => match h[a]? with
    | some (.inr (2, .inr xs)) => if i < 0 ∨ xs.length ≤ i.toNatClampNeg then none else match h[v]? with
      | some (.inl (1, _)) => some (.inl (pc + 1, ls, r, h.set a (.inr (2, .inr (xs.set i.toNatClampNeg (some v))))))
      | _ => none
    | _ => none
  | _ => none
/-- a call: k's own row; the arguments from the stack, the receiver below them; the receiver is an object of the class that has the method -/
def mi_inv (kd c idx pc : Nat) (ls : List (Option Value)) (st : List Value) (h : mi_H) : Option mi_N :=
  if kd = 2 ∧ ((mi_Ol[c]?).getD []).contains idx = true then match st with
    | .ref _ :: r => if r.length ≤ 4 then some (.inl (pc + 3, ls, r, h)) else none
    | _ => none
  else match ((mi_Ml[c]?).getD []).lookup idx with
    | some (k, _) => match mi_L[k]? with
      | some X => if X.2.2.2.2.1 = kd ∧ X.2.2.2.2.2.1 ≤ st.length ∧ (st.drop X.2.2.2.2.2.1).length ≤ 8 then
          if kd = 0 then some (.inr (.inl (k, (st.take X.2.2.2.2.2.1).reverse, (pc + 3, ls, st.drop X.2.2.2.2.2.1, h))))
          else match st.drop X.2.2.2.2.2.1 with
            | .ref b :: r => match h[b]? with
              | some (.inl (ci, _)) => match mi_V[ci]? with
                | some q => if q.1 = mi_cn X.2.1 then some (.inr (.inl (k, .ref b :: (st.take X.2.2.2.2.2.1).reverse, (pc + 3, ls, r, h)))) else none
                | none => none
              | _ => none
            | _ => none
        else none
      | none => none
    | none => none
def mi_ret (rt : Option FieldType) (st : List Value) (h : mi_H) : Option mi_N := match rt, st with
  | some .int, [.int v] => some (.inr (.inr (some (.int v), h)))
  | some .boolean, [.int v] => if v &&& 1 = v then some (.inr (.inr (some (.int v), h))) else none
  | _, _ => none
def mi_aret (rt : Option FieldType) (st : List Value) (h : mi_H) : Option mi_N := match rt, st with
  | some (.object _), [.ref v] => some (.inr (.inr (some (.ref v), h)))
  | some (.object _), [.null] => some (.inr (.inr (some .null, h)))
  | _, _ => none
def mi_vret (rt : Option FieldType) (st : List Value) (h : mi_H) : Option mi_N := match rt, st with
  | none, [] => some (.inr (.inr (none, h)))
  | _, _ => none
def mi_op (X : mi_M) (i : Instr) (n pc : Nat) (ls : List (Option Value)) (st : List Value) (h : mi_H) : Option mi_N := match i, n with
  | .iconst k, 1 => some (.inl (pc + 1, ls, .int (Int32.ofInt k) :: st, h))
  | .bipush k, 2 => some (.inl (pc + 2, ls, .int (Int8.ofInt k).toInt32 :: st, h))
  | .sipush k, 3 => some (.inl (pc + 3, ls, .int (Int16.ofInt k).toInt32 :: st, h))
  | .aconst_null, 1 => some (.inl (pc + 1, ls, .null :: st, h))
  | .iload k, 2 => mi_iload k 2 pc ls st h
  | .iload_n k, 1 => mi_iload k 1 pc ls st h
  | .aload k, 2 => mi_aload k 2 pc ls st h
  | .aload_n k, 1 => mi_aload k 1 pc ls st h
  | .istore k, 2 => mi_istore k 2 pc ls st h
  | .istore_n k, 1 => mi_istore k 1 pc ls st h
  | .astore k, 2 => mi_astore k 2 pc ls st h
  | .astore_n k, 1 => mi_astore k 1 pc ls st h
  | .iinc k d, 3 => mi_iinc k d pc ls st h
  | .iadd, 1 => mi_bin (fun x y => x + y) pc ls st h
  | .isub, 1 => mi_bin (fun x y => x - y) pc ls st h
  | .imul, 1 => mi_bin (fun x y => x * y) pc ls st h
  | .iand, 1 => mi_bin (fun x y => x &&& y) pc ls st h
  | .ior, 1 => mi_bin (fun x y => x ||| y) pc ls st h
  | .ixor, 1 => mi_bin (fun x y => x ^^^ y) pc ls st h
  | .ishl, 1 => mi_bin (fun x y => x <<< (y &&& 31)) pc ls st h
  | .ishr, 1 => mi_bin (fun x y => x >>> (y &&& 31)) pc ls st h
  | .iushr, 1 => mi_bin (fun x y => (x.toUInt32 >>> (y.toUInt32 &&& Int32.toUInt32 31)).toInt32) pc ls st h
  | .idiv, 1 => mi_div (fun x y => x / y) pc ls st h
  | .irem, 1 => mi_div (fun x y => x - x / y * y) pc ls st h
  | .ineg, 1 => match st with
    | .int x :: r => some (.inl (pc + 1, ls, .int (-x) :: r, h))
    | _ => none
  | .dup, 1 => match st with
    | v :: r => if v.category = 1 then some (.inl (pc + 1, ls, v :: v :: r, h)) else none
    | _ => none
  | .dup2, 1 => match st with
    | v :: w :: r => if v.category = 1 ∧ w.category = 1 then some (.inl (pc + 1, ls, v :: w :: v :: w :: r, h)) else none
    | _ => none
  | .pop, 1 => match st with
    | v :: r => if v.category = 1 then some (.inl (pc + 1, ls, r, h)) else none
    | _ => none
  | .goto off, 3 => mi_goto pc off ls st h
  | .ifCond c off, 3 => mi_if1 c off pc ls st h
  | .if_icmp c off, 3 => mi_if2 c off pc ls st h
  | .ifnull off, 3 => mi_ifn true off pc ls st h
  | .ifnonnull off, 3 => mi_ifn false off pc ls st h
  | .tableswitch dflt lo hi offs, _ => mi_tsw dflt lo hi offs pc ls st h
  | .lookupswitch dflt ps, _ => mi_lsw dflt ps pc ls st h
  | .getfield idx, 3 => mi_get X.2.1 idx pc ls st h
  | .putfield idx, 3 => mi_put X.2.1 X.2.2.2.2.1 idx pc ls st h
  | .getstatic idx, 3 => mi_gets X.2.1 idx pc ls st h
  | .new idx, 3 => mi_new X.2.1 idx pc ls st h
  | .newarray .int, 2 => mi_newa 0 pc ls st h
  | .newarray .boolean, 2 => mi_newa 1 pc ls st h
  | .anewarray idx, 3 => mi_newq X.2.1 idx pc ls st h
  | .arraylength, 1 => mi_alen pc ls st h
  | .iaload, 1 => mi_iald pc ls st h
  | .iastore, 1 => mi_iast pc ls st h
  | .baload, 1 => mi_bald pc ls st h
  | .bastore, 1 => mi_bast pc ls st h
  | .aaload, 1 => mi_aald pc ls st h
  | .aastore, 1 => mi_aast pc ls st h
  | .invokestatic idx, 3 => mi_inv 0 X.2.1 idx pc ls st h
  | .invokevirtual idx, 3 => mi_inv 1 X.2.1 idx pc ls st h
  | .invokespecial idx, 3 => mi_inv 2 X.2.1 idx pc ls st h
  | .ireturn, 1 => mi_ret X.2.2.1 st h
  | .areturn, 1 => mi_aret X.2.2.1 st h
  | .return_, 1 => mi_vret X.2.2.1 st h
  | _, _ => none
def mi_st (X : mi_M) (F : mi_F) : Option mi_N := match mi_look X.1 F.1 with
  | some (i, n) => mi_op X i n F.1 F.2.1 F.2.2.1 F.2.2.2
  | none => none
/-- n steps at most, to the method's end -/
def mi_it (call : Nat → List Value → mi_H → Option Value → mi_H → Prop) (X : mi_M) : Nat → mi_F → Option Value → mi_H → Prop
  | 0, _, _, _ => False
  | n + 1, F, r, h' => match mi_st X F with
    | some (.inl F') => mi_it call X n F' r h'
    | some (.inr (.inl (k, as, F'))) => ∃ r1 h1, call k as F'.2.2.2 r1 h1 ∧ mi_it call X n (F'.1, F'.2.1, r1.toList ++ F'.2.2.1, h1) r h'
    | some (.inr (.inr (r0, h0))) => r = r0 ∧ h' = h0
    | none => False
def mi_en (X : mi_M) (as : List Value) (h : mi_H) : mi_F := (0, as.map some ++ List.replicate (X.2.2.2.1 - as.length) none, [], h)
/-- calls at most d deep -/
def mi_Ca : Nat → Nat → List Value → mi_H → Option Value → mi_H → Prop
  | 0, _, _, _, _, _ => False
  | d + 1, k, as, h, r, h' => ∃ X n, mi_L[k]? = some X ∧ as.length ≤ X.2.2.2.1 ∧ mi_it (mi_Ca d) X n (mi_en X as h) r h'
/-- the same as a program -/
def mi_itf (call : Nat → List Value → mi_H → Option (Option Value × mi_H)) (X : mi_M) : Nat → mi_F → Option (Option Value × mi_H)
  | 0, _ => none
  | n + 1, F => match mi_st X F with
    | some (.inl F') => mi_itf call X n F'
    | some (.inr (.inl (k, as, F'))) => match call k as F'.2.2.2 with
      | some (r1, h1) => mi_itf call X n (F'.1, F'.2.1, r1.toList ++ F'.2.2.1, h1)
      | none => none
    | some (.inr (.inr (r0, h0))) => some (r0, h0)
    | none => none
def mi_Cf (fuel : Nat) : Nat → Nat → List Value → mi_H → Option (Option Value × mi_H)
  | 0, _, _, _ => none
  | d + 1, k, as, h => match mi_L[k]? with
    | some X => if as.length ≤ X.2.2.2.1 then mi_itf (mi_Cf fuel d) X fuel (mi_en X as h) else none
    | none => none
theorem mi_itf_ok {call : Nat → List Value → mi_H → Option Value → mi_H → Prop} {callf : Nat → List Value → mi_H → Option (Option Value × mi_H)} (hc : ∀ k as h r h', callf k as h = some (r, h') → call k as h r h') {X : mi_M} : ∀ (n : Nat) (F : mi_F) (r : Option Value) (h' : mi_H), mi_itf callf X n F = some (r, h') → mi_it call X n F r h' := by
  intro n
  induction n with
  | zero => intro F r h' h; cases h
  | succ n ih =>
    intro F r h' h
    unfold mi_itf at h
    unfold mi_it
    split at h
    · rename_i F' e; first | exact ih _ _ _ h | (rw [e]; exact ih _ _ _ h)
    · rename_i k as F' e
      split at h
      · rename_i r1 h1 e2; first | exact ⟨r1, h1, hc _ _ _ _ _ e2, ih _ _ _ h⟩ | (rw [e]; exact ⟨r1, h1, hc _ _ _ _ _ e2, ih _ _ _ h⟩)
      · cases h
    · rename_i r0 h0 e; cases h; first | exact ⟨rfl, rfl⟩ | (rw [e]; exact ⟨rfl, rfl⟩)
    · cases h
theorem mi_Cf_ok (fuel : Nat) : ∀ (d k : Nat) (as : List Value) (h : mi_H) (r : Option Value) (h' : mi_H), mi_Cf fuel d k as h = some (r, h') → mi_Ca d k as h r h' := by
  intro d
  induction d with
  | zero => intro k as h r h' e; cases e
  | succ d ih =>
    intro k as h r h' e
    unfold mi_Cf at e
    split at e
    · rename_i X hX
      split at e
      · rename_i hl
        exact ⟨X, fuel, hX, hl, mi_itf_ok (fun k as h r h' q => ih k as h r h' q) _ _ _ _ e⟩
      · cases e
    · cases e
/-- the depth can only help, and so can the steps -/
theorem mi_it_mono {c1 c2 : Nat → List Value → mi_H → Option Value → mi_H → Prop} (hc : ∀ k as h r h', c1 k as h r h' → c2 k as h r h') {X : mi_M} : ∀ (n m : Nat) (F : mi_F) (r : Option Value) (h' : mi_H), n ≤ m → mi_it c1 X n F r h' → mi_it c2 X m F r h' := by
  intro n
  induction n with
  | zero => intro m F r h' _ h; cases h
  | succ n ih =>
    intro m F r h' hm h
    obtain ⟨m, rfl⟩ : ∃ m', m = m' + 1 := ⟨m - 1, by omega⟩
    unfold mi_it at h ⊢
    split at h
    · exact ih _ _ _ _ (by omega) h
    · obtain ⟨r1, h1, a, b⟩ := h
      exact ⟨r1, h1, hc _ _ _ _ _ a, ih _ _ _ _ (by omega) b⟩
    · exact h
    · exact h
theorem mi_Ca_mono : ∀ (d e k : Nat) (as : List Value) (h : mi_H) (r : Option Value) (h' : mi_H), d ≤ e → mi_Ca d k as h r h' → mi_Ca e k as h r h' := by
  intro d
  induction d with
  | zero => intro e k as h r h' _ q; cases q
  | succ d ih =>
    intro e k as h r h' he q
    obtain ⟨e, rfl⟩ : ∃ e', e = e' + 1 := ⟨e - 1, by omega⟩
    obtain ⟨X, n, a, b, c⟩ := q
    exact ⟨X, n, a, b, mi_it_mono (fun k as h r h' q => ih e k as h r h' (by omega) q) n n _ _ _ (Nat.le_refl _) c⟩
