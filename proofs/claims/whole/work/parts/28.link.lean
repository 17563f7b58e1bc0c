/-! link -/
theorem nx_some {xs : List Int32} {x : Int32} {l j : Nat} : ∀ {m}, nx xs m x l = some j → l ≤ j ∧ j < m ∧ xs[j]? = some x ∧ ∀ t, l ≤ t → t < j → xs[t]? ≠ some x
  | 0, h => by cases h
  | m + 1, h => by
    unfold nx at h
    cases e : nx xs m x l with
    | some j2 =>
      rw [e] at h
      simp only [Option.some.injEq] at h
      subst h
      obtain ⟨h1, h2, h3, h4⟩ := nx_some (m := m) e
      exact ⟨h1, by omega, h3, h4⟩
    | none =>
      rw [e] at h
      simp only at h
      split at h
      · rename_i z
        simp only [Option.some.injEq] at h
        subst h
        refine ⟨z.1, Nat.lt_succ_self _, z.2, ?_⟩
        have := nx_none (xs := xs) (x := x) (l := l) (m := m) e
        exact fun t h1 h2 => this t h1 h2
      · cases h
where nx_none {xs : List Int32} {x : Int32} {l : Nat} : ∀ {m}, nx xs m x l = none → ∀ t, l ≤ t → t < m → xs[t]? ≠ some x
  | 0, _, t, _, h2 => absurd h2 (Nat.not_lt_zero t)
  | m + 1, h, t, h1, h2 => by
    unfold nx at h
    cases e : nx xs m x l with
    | some j2 => rw [e] at h; cases h
    | none =>
      rw [e] at h
      simp only at h
      split at h
      · cases h
      · rename_i z
        by_cases et : t = m
        · subst et
          exact fun w => z ⟨h1, w⟩
        · exact nx_none (m := m) e t h1 (by omega)
theorem nx_of {xs : List Int32} {x : Int32} {l m t : Nat} (h1 : l ≤ t) (h2 : t < m) (h3 : xs[t]? = some x) : ∃ j, nx xs m x l = some j := by
  cases e : nx xs m x l with
  | some j => exact ⟨j, rfl⟩
  | none => exact absurd h3 (nx_some.nx_none e t h1 h2)
theorem nx_none_of {xs : List Int32} {x : Int32} {l m : Nat} (h : ∀ t, l ≤ t → t < m → xs[t]? ≠ some x) : nx xs m x l = none := by
  cases e : nx xs m x l with
  | none => rfl
  | some j =>
    obtain ⟨h1, h2, h3, -⟩ := nx_some e
    exact absurd h3 (h j h1 h2)
theorem lst_some {xs : List Int32} {x : Int32} {j : Nat} : ∀ {m}, lst xs m x = some j → j < m ∧ xs[j]? = some x ∧ ∀ t, j < t → t < m → xs[t]? ≠ some x
  | 0, h => by cases h
  | m + 1, h => by
    unfold lst at h
    split at h
    · rename_i z
      simp only [Option.some.injEq] at h
      subst h
      exact ⟨Nat.lt_succ_self _, z, fun t h1 h2 => by omega⟩
    · rename_i z
      obtain ⟨h1, h2, h3⟩ := lst_some (m := m) h
      refine ⟨by omega, h2, fun t t1 t2 => ?_⟩
      by_cases e : t = m
      · subst e; exact z
      · exact h3 t t1 (by omega)
theorem lst_none {xs : List Int32} {x : Int32} : ∀ {m}, lst xs m x = none → ∀ t, t < m → xs[t]? ≠ some x
  | 0, _, t, h2 => absurd h2 (Nat.not_lt_zero t)
  | m + 1, h, t, h2 => by
    unfold lst at h
    split at h
    · cases h
    · rename_i z
      by_cases e : t = m
      · subst e; exact z
      · exact lst_none (m := m) h t (by omega)
/-- one more at the end -/
theorem cnt_more {xs : List Int32} {m : Nat} {y x : Int32} (hm : m < xs.length) : cnt (xs.set m y) (m + 1) x = cnt xs m x + (if y = x then 1 else 0) := by
  have e : ∀ n, n ≤ m → cnt (xs.set m y) n x = cnt xs n x := by
    intro n
    induction n with
    | zero => intro _; rfl
    | succ n ih =>
      intro hn
      show cnt (xs.set m y) n x + _ = cnt xs n x + _
      rw [ih (by omega), List.getElem?_set_ne (by omega)]
  show cnt (xs.set m y) m x + _ = _
  rw [e m (Nat.le_refl _), List.getElem?_set_self hm]
  simp
theorem nx_more {xs : List Int32} {m l : Nat} {y x : Int32} (hm : m < xs.length) : nx (xs.set m y) (m + 1) x l = (match nx xs m x l with
  | some j => some j
  | none => if l ≤ m ∧ y = x then some m else none) := by
  have e : ∀ n, n ≤ m → nx (xs.set m y) n x l = nx xs n x l := by
    intro n
    induction n with
    | zero => intro _; rfl
    | succ n ih =>
      intro hn
      unfold nx
      rw [ih (by omega), List.getElem?_set_ne (by omega)]
  conv => lhs; unfold nx
  rw [e m (Nat.le_refl _), List.getElem?_set_self hm]
  cases nx xs m x l <;> simp
theorem lst_more {xs : List Int32} {m : Nat} {y x : Int32} (hm : m < xs.length) : lst (xs.set m y) (m + 1) x = if y = x then some m else lst xs m x := by
  have e : ∀ n, n ≤ m → lst (xs.set m y) n x = lst xs n x := by
    intro n
    induction n with
    | zero => intro _; rfl
    | succ n ih =>
      intro hn
      unfold lst
      rw [ih (by omega), List.getElem?_set_ne (by omega)]
  conv => lhs; unfold lst
  rw [e m (Nat.le_refl _), List.getElem?_set_self hm]
  simp
theorem nI_inj {a b : Nat} (ha : a < 2 ^ 31) (hb : b < 2 ^ 31) (h : nI a = nI b) : a = b := by rw [← nI_clamp ha, h, nI_clamp hb]
theorem rfB_new {B : Nat → Nat} {M n : Nat} {o : Option Nat} (h : ∀ l, o = some l → l < M) : rfB (fun l => if l = M then n else B l) o = rfB B o := by
  cases o with
  | none => rfl
  | some l =>
    have := h l rfl
    simp only [rfB]
    rw [if_neg (by omega)]
/-- what link() leaves, cell by cell -/
theorem dR_link {N M : Nat} {kO vO cO tO fm to : List Int32} {pu : Nat} {A B px : Nat → Nat} {an : Nat → Int32} {dyn base : mi_H} {i j : Nat} {ki kj : Nat} {vi ci ti vj cj tj : Int32} {fl : Value} (hd : dR N M kO vO cO tO fm to pu A B px an dyn) (hN : N ≤ 300) (hM : M < 400) (lf : fm.length = 400) (lo : to.length = 400) (hi : i < N) (hj : j < N)
  (gi : ki < 11 ∧ kO[i]? = some (nI ki) ∧ vO[i]? = some vi ∧ cO[i]? = some ci ∧ tO[i]? = some ti) (gj : kj < 11 ∧ kO[j]? = some (nI kj) ∧ vO[j]? = some vj ∧ cO[j]? = some cj ∧ tO[j]? = some tj)
  (b1 : ∀ x, x < N → x ≠ i → base[A x]? = dyn[A x]?) (b1' : A i < base.length) (b2 : ∀ l f t, l < M → fm[l]? = some (nI f) → to[l]? = some (nI t) → f < N → t < N → base[B l]? = some (lkc (A t) (if f = i ∧ lst fm M (nI i) = some l then .ref (dyn.length + 6) else rfB B (nx fm M (nI f) (l + 1))))) (b3 : base[dyn.length]? = some (lkc (A j) .null))
  (hfl : fl = match nx fm M (nI i) 0 with
    | some f => .ref (B f + 6)
    | none => .ref (dyn.length + 6)) :
  dR N (M + 1) kO vO cO tO (fm.set M (nI i)) (to.set M (nI j)) pu A (fun l => if l = M then dyn.length else B l) px an
    ((base.set (A i) (dvc ki vi ci (nI (cnt fm M (nI i) + 1)) (nI (cnt to M (nI i))) ti (nI (px i)) (an i) fl (.ref (dyn.length + 6)))).set (A j) (if j = i then dvc ki vi ci (nI (cnt fm M (nI i) + 1)) (nI (cnt to M (nI i) + 1)) ti (nI (px i)) (an i) fl (.ref (dyn.length + 6)) else dvc kj vj cj (nI (cnt fm M (nI j))) (nI (cnt to M (nI j) + 1)) tj (nI (px j)) (an j) (rfB B (nx fm M (nI j) 0)) (rfB B (lst fm M (nI j))))) := by
  obtain ⟨h1, h2, h3, h4⟩ := hd
  have hA : ∀ i, i < N → A i < dyn.length := fun i hi => by
    obtain ⟨k', v', c', t', -, -, -, -, -, -, hcell⟩ := h3 i hi
    exact (List.getElem?_eq_some_iff.mp hcell).1
  have hB : ∀ l, l < M → B l < dyn.length := fun l hl => by
    obtain ⟨f, t', -, -, -, -, hcell⟩ := h4 l hl
    exact (List.getElem?_eq_some_iff.mp hcell).1
  have hAB : ∀ x l, x < N → l < M → A x ≠ B l := fun x l hx hl z => by
    obtain ⟨k', v', c', t', -, -, -, -, -, -, hc1⟩ := h3 x hx
    obtain ⟨f, t', -, -, -, -, hc2⟩ := h4 l hl
    rw [z, hc2] at hc1
    have := Sum.inl.inj (Option.some.inj hc1)
    cases congrArg Prod.fst this
  have inj : ∀ a b : Nat, a < N → b < N → nI a = nI b → a = b := fun a b ha hb => nI_inj (by omega) (by omega)
  have rf0 : ∀ x l, rfB (fun l => if l = M then dyn.length else B l) (nx fm M x l) = rfB B (nx fm M x l) := fun x l => rfB_new (fun t ht => (nx_some ht).2.1)
  have rfl0 : ∀ x, rfB (fun l => if l = M then dyn.length else B l) (lst fm M x) = rfB B (lst fm M x) := fun x => rfB_new (fun t ht => (lst_some ht).1)
  have new : rfB (fun l => if l = M then dyn.length else B l) (some M) = .ref (dyn.length + 6) := by simp [rfB]
  refine ⟨h1, fun l k hl hk e => ?_, fun x hx => ?_, fun l hl => ?_⟩
  · dsimp only at e
    by_cases e1 : l = M
    · by_cases e2 : k = M
      · omega
      · rw [if_pos e1, if_neg e2] at e
        have := hB k (by omega)
        omega
    · by_cases e2 : k = M
      · rw [if_neg e1, if_pos e2] at e
        have := hB l (by omega)
        omega
      · rw [if_neg e1, if_neg e2] at e
        exact h2 l k (by omega) (by omega) e
  · obtain ⟨kx, vx, cx, tx, g1, g2, g3, g4, g5, g6, hcell⟩ := h3 x hx
    have first : x = i → rfB (fun l => if l = M then dyn.length else B l) (nx (fm.set M (nI i)) (M + 1) (nI x) 0) = fl := by
      intro e
      subst e
      rw [nx_more (by omega), hfl]
      cases en : nx fm M (nI x) 0 with
      | some f =>
        have := (nx_some en).2.1
        simp only [rfB]
        rw [if_neg (by omega)]
      | none =>
        simp only
        rw [if_pos ⟨Nat.zero_le _, trivial⟩]
        exact new
    have firstN : x ≠ i → rfB (fun l => if l = M then dyn.length else B l) (nx (fm.set M (nI i)) (M + 1) (nI x) 0) = rfB B (nx fm M (nI x) 0) := by
      intro e
      rw [nx_more (by omega)]
      cases en : nx fm M (nI x) 0 with
      | some f =>
        have := (nx_some en).2.1
        simp only [rfB]
        rw [if_neg (by omega)]
      | none =>
        simp only
        rw [if_neg (fun z => e (inj x i hx hi z.2.symm))]
        rfl
    by_cases exi : x = i
    · subst exi
      have ek : kx = ki := nI_inj (by omega) (by omega) (Option.some.inj (g2.symm.trans gi.2.1))
      have ev : vx = vi := Option.some.inj (g3.symm.trans gi.2.2.1)
      have ec : cx = ci := Option.some.inj (g4.symm.trans gi.2.2.2.1)
      have et : tx = ti := Option.some.inj (g5.symm.trans gi.2.2.2.2)
      subst ek; subst ev; subst ec; subst et
      refine ⟨kx, vx, cx, tx, g1, g2, g3, g4, g5, g6, ?_⟩
      rw [first rfl, cnt_more (by omega), cnt_more (by omega), lst_more (by omega), if_pos rfl, if_pos rfl, new]
      by_cases eij : j = x
      · subst eij
        rw [List.getElem?_set_self (by rw [List.length_set]; exact b1'), if_pos rfl, if_pos rfl]
      · rw [List.getElem?_set_ne (fun z => eij (h1 _ _ hj hx z)), List.getElem?_set_self b1', if_neg (fun z => eij (inj _ _ hj hx z))]
        rfl
    · by_cases exj : x = j
      · subst exj
        have ek : kx = kj := nI_inj (by omega) (by omega) (Option.some.inj (g2.symm.trans gj.2.1))
        have ev : vx = vj := Option.some.inj (g3.symm.trans gj.2.2.1)
        have ec : cx = cj := Option.some.inj (g4.symm.trans gj.2.2.2.1)
        have et : tx = tj := Option.some.inj (g5.symm.trans gj.2.2.2.2)
        subst ek; subst ev; subst ec; subst et
        refine ⟨kx, vx, cx, tx, g1, g2, g3, g4, g5, g6, ?_⟩
        have hl : A x < (base.set (A i) (dvc ki vi ci (nI (cnt fm M (nI i) + 1)) (nI (cnt to M (nI i))) ti (nI (px i)) (an i) fl (.ref (dyn.length + 6)))).length := by
          rw [List.length_set]
          have := b1 x hx exi
          rw [hcell] at this
          exact (List.getElem?_eq_some_iff.mp this).1
        rw [firstN exi, cnt_more (by omega), cnt_more (by omega), lst_more (by omega), if_neg (fun z => exi (inj _ _ hi hx z).symm), if_pos rfl, if_neg (fun z => exi (inj _ _ hi hx z).symm), rfl0, List.getElem?_set_self hl, if_neg exi]
        rfl
      · refine ⟨kx, vx, cx, tx, g1, g2, g3, g4, g5, g6, ?_⟩
        rw [firstN exi, cnt_more (by omega), cnt_more (by omega), lst_more (by omega), if_neg (fun z => exi (inj _ _ hi hx z).symm), if_neg (fun z => exj (inj _ _ hj hx z).symm), if_neg (fun z => exi (inj _ _ hi hx z).symm), rfl0, List.getElem?_set_ne (fun z => exj (h1 _ _ hj hx z).symm), List.getElem?_set_ne (fun z => exi (h1 _ _ hi hx z).symm), b1 x hx exi]
        exact hcell
  · by_cases e : l = M
    · subst e
      refine ⟨i, j, hi, hj, List.getElem?_set_self (by omega), List.getElem?_set_self (by omega), ?_⟩
      have hn : nx (fm.set l (nI i)) (l + 1) (nI i) (l + 1) = none := nx_none_of (fun t t1 t2 => by omega)
      have n1 : A j ≠ dyn.length := by have := hA j hj; omega
      have n2 : A i ≠ dyn.length := by have := hA i hi; omega
      rw [hn]
      dsimp only
      rw [if_pos rfl, List.getElem?_set_ne n1, List.getElem?_set_ne n2]
      exact b3
    · have hl2 : l < M := by omega
      obtain ⟨f, t, g1, g2, g3, g4, -⟩ := h4 l hl2
      refine ⟨f, t, g1, g2, by rw [List.getElem?_set_ne (by omega)]; exact g3, by rw [List.getElem?_set_ne (by omega)]; exact g4, ?_⟩
      dsimp only
      rw [if_neg e, List.getElem?_set_ne (hAB j l hj hl2), List.getElem?_set_ne (hAB i l hi hl2), b2 l f t hl2 g3 g4 g1 g2, nx_more (by omega)]
      congr 2
      by_cases ef : f = i
      · subst ef
        cases en : nx fm M (nI f) (l + 1) with
        | some s =>
          have hs := nx_some en
          rw [if_neg (fun z => by
            obtain ⟨w1, w2, w3⟩ := lst_some z.2
            exact w3 s (by omega) hs.2.1 hs.2.2.1)]
          simp only [rfB]
          rw [if_neg (by omega)]
        | none =>
          have hlast : lst fm M (nI f) = some l := by
            cases el : lst fm M (nI f) with
            | none => exact absurd g3 (lst_none el l hl2)
            | some lp =>
              obtain ⟨w1, w2, w3⟩ := lst_some el
              have : ¬ l < lp := fun z => nx_some.nx_none en lp (by omega) w1 w2
              have : ¬ lp < l := fun z => w3 l z hl2 g3
              congr 1
              omega
          rw [if_pos ⟨rfl, hlast⟩]
          simp only
          rw [if_pos ⟨by omega, trivial⟩]
          exact new.symm
      · rw [if_neg (fun z => ef z.1)]
        cases en : nx fm M (nI f) (l + 1) with
        | some s =>
          have hs := nx_some en
          simp only [rfB]
          rw [if_neg (by omega)]
        | none =>
          simp only
          rw [if_neg (fun z => ef (inj _ _ hi g1 z.2).symm)]
          rfl
