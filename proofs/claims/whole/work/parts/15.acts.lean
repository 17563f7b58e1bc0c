/-! THE ACTS: the tables that the constructors make, the tokens of each body, and what an act does: by tokens over a stack -/
def mi_sel : List Int32 := [100, 10, 11, 62, 0, 70, 0, 0, 0, 101, 61, 64, 0, 0, 21, 62, 111, 70, 0, 0, 0, 60, 110, 64, 0, 0, 0, 62, 0, 70, 120, 41, 0, 60, 61, 64, 130, 131, 11, 62, 0, 70, 0, 0, 0, 101, 61, 64, 140, 10, 141, 62, 111, 70, 0, 0, 0, 60, 142, 64, 150, 10, 30, 62, 152, 70, 120, 41, 0, 151, 61, 64, 0, 0, 0, 62, 0, 160, 40, 50, 161, 163, 61, 64, 0, 0, 0, 62, 0, 70, 120, 50, 51, 60, 61, 64, 130, 131, 181, 62, 0, 70, 0, 0, 0, 180, 61, 64, 190, 10, 30, 62, 111, 70, 0, 0, 0, 60, 110, 64, 140, 10, 202, 62, 111, 204, 40, 201, 51, 60, 142, 64, 0, 0, 0, 62, 0, 70, 0, 0, 0, 60, 61, 64, 0, 0, 0, 62, 0, 0, 0, 0, 0, 60, 61, 64, 0, 10, 11, 0, 0, 0, 0, 0, 0, 0, 0, 0, 0, 0, 21, 0, 20, 0, 0, 0, 0, 0, 0, 0, 0, 10, 30, 0, 20, 0, 0, 0, 0, 0, 0, 0, 0, 0, 0, 0, 0, 0, 40, 41, 0, 0, 0, 0, 0, 0, 0, 0, 0, 0, 40, 50, 51, 0, 0, 0]
def mi_cd : List Int32 := [3010, 1000, 1100, 1, 1003, 3011, 1000, 1101, 3, 1005, 1000, 1, 1003, 1100, 1004, 3020, 1000, 1103, 1000, 1, 1003, 1103, 1003, 3021, 1000, 1104, 85, 1006, 3030, 1000, 1314, 1000, 1, 1003, 1326, 1003, 3040, 1000, 1105, 1000, 1003, 3041, 1000, 1106, 2, 1005, 1, 1106, 1003, 3050, 1000, 1355, 1000, 1108, 1004, 3051, 1000, 2052, 2, 1105, 1003, 3052, 1000, 1105, 5, 1005, 3060, 1001, 1000, 1003, 1008, 1001, 3061, 1001, 3, 1000, 1005, 1004, 1008, 1001, 3062, 1001, 31, 1005, 1000, 1003, 1008, 1001, 3063, 1001, 1000, 1006, 3064, 1000, 1109, 1, 1110, 1003, 1000, 2063, 1003, 3070, 1002, 1, 1003, 1009, 1002, 7, 1005, 1000, 1003, 3100, 1001, 1000, 1003, 3101, 1000, 2, 1003, 1209, 1, 1003, 3110, 1000, 1210, 2, 1005, 1000, 2112, 1003, 3111, 1000, 1328, 1, 1004, 3112, 1002, 1000, 1004, 3120, 1000, 1105, 3, 1005, 1001, 1003, 3130, 1000, 1200, 3, 1005, 3131, 1000, 1, 1003, 1201, 5, 1003, 3140, 1001, 1000, 1004, 3141, 1000, 1202, 1, 1314, 1004, 3142, 1000, 1, 1003, 1210, 4, 1003, 3150, 1000, 1105, 1001, 1003, 3151, 1000, 1209, 0, 1102, 1006, 3152, 1000, 1340, 1, 1003, 3160, 1000, 3161, 1000, 1368, 255, 1007, 3162, 1000, 99, 1003, 3163, 1000, 2162, 1, 1209, 1003, 3180, 1000, 1209, 1, 1004, 3181, 1000, 1202, 2, 1101, 1003, 3190, 1000, 1110, 2, 1005, 3200, 1002, 1000, 1003, 3201, 1000, 1367, 1000, 2200, 1003, 3202, 1000, 1338, 1000, 1202, 1003, 3204, 1000, 1205, 1, 1003, 3000]
def mi_sta : List Int32 := [0, 0, 0, 0, 0, 0, 0, 0, 0, 0, 1, 6, 0, 0, 0, 0, 0, 0, 0, 0, 16, 24, 0, 0, 0, 0, 0, 0, 0, 0, 29, 0, 0, 0, 0, 0, 0, 0, 0, 0, 37, 42, 0, 0, 0, 0, 0, 0, 0, 0, 50, 56, 62, 0, 0, 0, 0, 0, 0, 0, 67, 73, 81, 89, 93, 0, 0, 0, 0, 0, 102, 0, 0, 0, 0, 0, 0, 0, 0, 0, 0, 0, 0, 0, 0, 0, 0, 0, 0, 0, 0, 0, 0, 0, 0, 0, 0, 0, 0, 0, 112, 116, 0, 0, 0, 0, 0, 0, 0, 0, 123, 131, 136, 0, 0, 0, 0, 0, 0, 0, 140, 0, 0, 0, 0, 0, 0, 0, 0, 0, 147, 152, 0, 0, 0, 0, 0, 0, 0, 0, 159, 163, 169, 0, 0, 0, 0, 0, 0, 0, 176, 181, 187, 0, 0, 0, 0, 0, 0, 0, 192, 194, 199, 203, 0, 0, 0, 0, 0, 0, 0, 0, 0, 0, 0, 0, 0, 0, 0, 0, 209, 214, 0, 0, 0, 0, 0, 0, 0, 0, 220, 0, 0, 0, 0, 0, 0, 0, 0, 0, 225, 229, 235, 0, 241, 0, 0, 0, 0, 0]
def mi_par : List Int32 := [0, 0, 0, 0, 0, 0, (-1), 6, 0, 0, 7, 7, 7, 10, 11, 12, 7, 12, 13, 11, 14]
def mi_bea : List Int32 := [0, 0, 0, 0, 0, 0, 0, 0, 0, 0, 2, 4, 16, 2, 6, 30, 48, 48, 2, 14, 62]
def mi_has : List Int32 := [(-1), (-1), (-1), (-1), (-1), (-1), (-1), (-1), (-1), (-1), (-1), (-1), (-1), 10, 11, (-1), (-1), (-1), (-1), (-1), (-1), (-1), (-1), (-1), (-1), (-1), 21, (-1), 20, (-1), (-1), (-1), (-1), (-1), (-1), (-1), (-1), (-1), 30, (-1), (-1), (-1), (-1), (-1), (-1), (-1), (-1), (-1), (-1), (-1), (-1), (-1), (-1), (-1), 40, 41, (-1), (-1), (-1), (-1), (-1), (-1), (-1), (-1), (-1), (-1), (-1), 50, 51, (-1), (-1), (-1), (-1), (-1), (-1), 62, (-1), (-1), (-1), (-1), (-1), 60, 61, 64, (-1), (-1), (-1), (-1), (-1), 70, (-1), (-1), (-1), (-1), (-1), (-1), (-1), (-1), (-1), (-1), (-1), (-1), (-1), (-1), (-1), (-1), (-1), (-1), (-1), (-1), (-1), (-1), (-1), (-1), (-1), (-1), (-1), (-1), (-1), (-1), 100, (-1), (-1), (-1), (-1), (-1), (-1), (-1), (-1), 101, (-1), (-1), (-1), (-1), (-1), (-1), 111, (-1), (-1), (-1), (-1), (-1), 110, (-1), (-1), (-1), (-1), (-1), (-1), (-1), 120, (-1), (-1), (-1), (-1), (-1), 130, 131, (-1), (-1), (-1), (-1), (-1), (-1), (-1), (-1), (-1), (-1), 140, (-1), 141, (-1), (-1), (-1), (-1), (-1), (-1), (-1), 142, (-1), 150, (-1), (-1), (-1), 152, (-1), (-1), (-1), (-1), 151, (-1), (-1), (-1), (-1), (-1), (-1), (-1), 160, (-1), (-1), 161, 163, (-1), (-1), (-1), (-1), (-1), (-1), (-1), (-1), (-1), (-1), (-1), (-1), (-1), (-1), (-1), (-1), 181, (-1), (-1), (-1), (-1), (-1), (-1), 180, (-1), (-1), 190, (-1), (-1), (-1), (-1), (-1), (-1), (-1), (-1), (-1), (-1), (-1), (-1), (-1), 202, (-1), (-1), 204, (-1), 201, (-1), (-1), (-1), (-1)]
def mi_ch : List Int32 := [0, 0, 0, 0, 0, 0, 0, 0, 0, 0, 0, 0, (-1), 10, 11, (-1), (-1), (-1), (-1), (-1), (-1), (-1), (-1), (-1), (-1), (-1), 21, (-1), 20, (-1), (-1), (-1), (-1), (-1), (-1), (-1), (-1), 10, 30, (-1), 20, (-1), (-1), (-1), (-1), (-1), (-1), (-1), (-1), (-1), (-1), (-1), (-1), (-1), 40, 41, (-1), (-1), (-1), (-1), (-1), (-1), (-1), (-1), (-1), (-1), 40, 50, 51, (-1), (-1), (-1), (-1), (-1), (-1), 62, (-1), (-1), (-1), (-1), (-1), 60, 61, 64, (-1), (-1), (-1), 62, (-1), 70, (-1), (-1), (-1), 60, 61, 64, (-1), (-1), (-1), (-1), (-1), (-1), (-1), (-1), (-1), (-1), (-1), (-1), (-1), (-1), (-1), (-1), (-1), (-1), (-1), (-1), (-1), (-1), (-1), (-1), 100, 10, 11, 62, (-1), 70, (-1), (-1), (-1), 101, 61, 64, (-1), (-1), 21, 62, 111, 70, (-1), (-1), (-1), 60, 110, 64, (-1), (-1), (-1), 62, (-1), 70, 120, 41, (-1), 60, 61, 64, 130, 131, 11, 62, (-1), 70, (-1), (-1), (-1), 101, 61, 64, 140, 10, 141, 62, 111, 70, (-1), (-1), (-1), 60, 142, 64, 150, 10, 30, 62, 152, 70, 120, 41, (-1), 151, 61, 64, (-1), (-1), (-1), 62, (-1), 160, 40, 50, 161, 163, 61, 64, (-1), (-1), (-1), 62, (-1), 70, 120, 50, 51, 60, 61, 64, 130, 131, 181, 62, (-1), 70, (-1), (-1), (-1), 180, 61, 64, 190, 10, 30, 62, 111, 70, (-1), (-1), (-1), 60, 110, 64, 140, 10, 202, 62, 111, 204, 40, 201, 51, 60, 142, 64]
def mi_aw : List Int32 := [0, 3624, 7, 28, 31, 224, 480]
def mi_ak : List Int32 := [3631, 3644, 3816, 3631, 3647, 3839, 4072, 4072, 3631, 3647, 4095]
def mi_wy : List Int32 := [7, 11, 35, 7, 15, 63, 99, 99, 7, 31, 127]
def mi_ac : List Int32 := [3631, 3644, 3816, 3631, 3647, 3839, 4072, 4072, 3631, 3647, 4095]
def ac_tab : List (Int32 × Int32 × List Int32) := [(10, 1, [1000, 1100, 1, 1003]), (11, 6, [1000, 1101, 3, 1005, 1000, 1, 1003, 1100, 1004]), (20, 16, [1000, 1103, 1000, 1, 1003, 1103, 1003]), (21, 24, [1000, 1104, 85, 1006]), (30, 29, [1000, 1314, 1000, 1, 1003, 1326, 1003]), (40, 37, [1000, 1105, 1000, 1003]), (41, 42, [1000, 1106, 2, 1005, 1, 1106, 1003]), (50, 50, [1000, 1355, 1000, 1108, 1004]), (51, 56, [1000, 2052, 2, 1105, 1003]), (52, 62, [1000, 1105, 5, 1005]), (60, 67, [1001, 1000, 1003, 1008, 1001]), (61, 73, [1001, 3, 1000, 1005, 1004, 1008, 1001]), (62, 81, [1001, 31, 1005, 1000, 1003, 1008, 1001]), (63, 89, [1001, 1000, 1006]), (64, 93, [1000, 1109, 1, 1110, 1003, 1000, 2063, 1003]), (70, 102, [1002, 1, 1003, 1009, 1002, 7, 1005, 1000, 1003]), (100, 112, [1001, 1000, 1003]), (101, 116, [1000, 2, 1003, 1209, 1, 1003]), (110, 123, [1000, 1210, 2, 1005, 1000, 2112, 1003]), (111, 131, [1000, 1328, 1, 1004]), (112, 136, [1002, 1000, 1004]), (120, 140, [1000, 1105, 3, 1005, 1001, 1003]), (130, 147, [1000, 1200, 3, 1005]), (131, 152, [1000, 1, 1003, 1201, 5, 1003]), (140, 159, [1001, 1000, 1004]), (141, 163, [1000, 1202, 1, 1314, 1004]), (142, 169, [1000, 1, 1003, 1210, 4, 1003]), (150, 176, [1000, 1105, 1001, 1003]), (151, 181, [1000, 1209, 0, 1102, 1006]), (152, 187, [1000, 1340, 1, 1003]), (160, 192, [1000]), (161, 194, [1000, 1368, 255, 1007]), (162, 199, [1000, 99, 1003]), (163, 203, [1000, 2162, 1, 1209, 1003]), (180, 209, [1000, 1209, 1, 1004]), (181, 214, [1000, 1202, 2, 1101, 1003]), (190, 220, [1000, 1110, 2, 1005]), (200, 225, [1002, 1000, 1003]), (201, 229, [1000, 1367, 1000, 2200, 1003]), (202, 235, [1000, 1338, 1000, 1202, 1003]), (204, 241, [1000, 1205, 1, 1003])]
def ac_at (xs : List Int32) (i : Int32) : Option Int32 := if i < 0 then none else xs[i.toNatClampNeg]?
theorem ac_at_inv {xs : List Int32} {i x : Int32} (h : ac_at xs i = some x) : ¬ i < 0 ∧ xs[i.toNatClampNeg]? = some x := by
  unfold ac_at at h
  split at h
  · cases h
  · rename_i q; exact ⟨q, h⟩
/-- a body's tokens -/
def ac_tk (b : Int32) : Option (List Int32) := (ac_tab.find? (fun q => q.1 == b)).map (fun q => q.2.2)
/-- the body that a calling token names -/
def ac_sb (k b o : Int32) : Option Int32 :=
  if 2000 ≤ o then some (o - 2000)
  else if 1312 ≤ o then ac_at mi_ch (o - 1312 + 12)
  else if 1200 ≤ o then (ac_at mi_par (b / 10)).bind (fun p => ac_at mi_ch (p * 12 + o - 1200))
  else ac_at mi_ch ((10 + k) * 12 + o - 1100)
/-- a token that calls nobody: stack, value, count -/
def ac_st (o x : Int32) (st : List Int32) (v c : Int32) : Option (List Int32 × Int32 × Int32) :=
  if o < 1000 then some (o :: st, v, c)
  else if o = 1000 then some (x :: st, v, c)
  else if o = 1001 then some (v :: st, v, c)
  else if o = 1002 then some (c :: st, v, c)
  else if o = 1008 then match st with
    | y :: r => some (r, y, c)
    | _ => none
  else if o = 1009 then match st with
    | y :: r => some (r, v, y)
    | _ => none
  else match st with
    | y :: z :: r => some ((if o = 1003 then z + y else if o = 1004 then z - y else if o = 1005 then z * y else if o = 1006 then z ^^^ y else z &&& y) :: r, v, c)
    | _ => none
def ac_x (sub : Int32 → Int32 → Int32 → Int32 → Option (Int32 × Int32 × Int32)) (k b x : Int32) : List Int32 → List Int32 → Int32 → Int32 → Option (List Int32 × Int32 × Int32)
  | [], st, v, c => some (st, v, c)
  | o :: ts, st, v, c =>
    if 1100 ≤ o then match ac_sb k b o, st with
      | some b2, y :: r => match sub b2 y v c with
        | some (z, v2, c2) => ac_x sub k b x ts (z :: r) v2 c2
        | none => none
      | _, _ => none
    else if 4 < st.length then none else match ac_st o x st v c with
      | some (st2, v2, c2) => ac_x sub k b x ts st2 v2 c2
      | none => none
/-- what body b of a device of kind k answers to x, and what its value and count become -/
def ac_ev : Nat → Int32 → Int32 → Int32 → Int32 → Int32 → Option (Int32 × Int32 × Int32)
  | 0, _, _, _, _, _ => none
  | f + 1, k, b, x, v, c => match ac_tk b with
    | some ts => match ac_x (ac_ev f k) k b x ts [] v c with
      | some ([r], v2, c2) => some (r, v2, c2)
      | _ => none
    | none => none
/-- which bodies run -/
def ac_trs (sub : Int32 → List Int32) (k b : Int32) : List Int32 → List Int32
  | [] => []
  | o :: ts => if 1100 ≤ o then (match ac_sb k b o with
      | some b2 => sub b2
      | none => []) ++ ac_trs sub k b ts else ac_trs sub k b ts
def ac_tr : Nat → Int32 → Int32 → List Int32
  | 0, _, _ => []
  | f + 1, k, b => b :: ac_trs (ac_tr f k) k b ((ac_tk b).getD [])
/-- the chain that is kept, and how many ran -/
def ac_kp (tr : List Int32) (q : List Int32 × Nat) : List Int32 × Nat := tr.foldl (fun q b => (if q.2 < 64 then q.1.set q.2 b else q.1, q.2 + 1)) q
theorem ac_kp_app (a b : List Int32) (q : List Int32 × Nat) : ac_kp (a ++ b) q = ac_kp b (ac_kp a q) := by simp [ac_kp]
theorem ac_kp_ran : ∀ (tr : List Int32) (q : List Int32 × Nat), (ac_kp tr q).2 = q.2 + tr.length
  | [], _ => rfl
  | b :: tr, q => by
    have h := ac_kp_ran tr (if q.2 < 64 then q.1.set q.2 b else q.1, q.2 + 1)
    show (ac_kp tr (if q.2 < 64 then q.1.set q.2 b else q.1, q.2 + 1)).2 = _
    rw [h, List.length_cons]
    omega
theorem ac_kp_len : ∀ (tr : List Int32) (q : List Int32 × Nat), (ac_kp tr q).1.length = q.1.length
  | [], _ => rfl
  | b :: tr, q => by
    have h := ac_kp_len tr (if q.2 < 64 then q.1.set q.2 b else q.1, q.2 + 1)
    show (ac_kp tr (if q.2 < 64 then q.1.set q.2 b else q.1, q.2 + 1)).1.length = _
    rw [h]
    dsimp only
    split
    · exact List.length_set
    · rfl
/-! an act always comes to an end: by its shape -/
def ac_hx (sub : Int32 → Bool) (k b : Int32) : List Int32 → Nat → Bool
  | [], n => n == 1
  | o :: ts, n =>
    if 1100 ≤ o then (match ac_sb k b o with
      | some b2 => sub b2 && decide (0 < n) && ac_hx sub k b ts n
      | none => false)
    else if 4 < n then false
    else if o < 1000 then ac_hx sub k b ts (n + 1)
    else if o = 1000 then ac_hx sub k b ts (n + 1)
    else if o = 1001 then ac_hx sub k b ts (n + 1)
    else if o = 1002 then ac_hx sub k b ts (n + 1)
    else if o = 1008 then decide (1 ≤ n) && ac_hx sub k b ts (n - 1)
    else if o = 1009 then decide (1 ≤ n) && ac_hx sub k b ts (n - 1)
    else decide (2 ≤ n) && ac_hx sub k b ts (n - 1)
def ac_h : Nat → Int32 → Int32 → Bool
  | 0, _, _ => false
  | f + 1, k, b => match ac_tk b with
    | some ts => ac_hx (ac_h f k) k b ts 0
    | none => false
theorem ac_hx_ok {sub : Int32 → Bool} {subE : Int32 → Int32 → Int32 → Int32 → Option (Int32 × Int32 × Int32)} {k b x : Int32} (hs : ∀ b2, sub b2 = true → ∀ y v c, ∃ q, subE b2 y v c = some q) : ∀ (ts : List Int32) (st : List Int32) (v c : Int32), ac_hx sub k b ts st.length = true → ∃ r v2 c2, ac_x subE k b x ts st v c = some ([r], v2, c2) := by
  intro ts
  induction ts with
  | nil =>
    intro st v c h
    unfold ac_hx at h
    have h1 : st.length = 1 := by simpa using h
    match st, h1 with
    | [r], _ => exact ⟨r, v, c, rfl⟩
  | cons o ts ih =>
    intro st v c h
    unfold ac_hx at h
    unfold ac_x
    split at h
    · rename_i ho
      rw [if_pos ho]
      split at h
      · rename_i b2 hb
        simp only [Bool.and_eq_true, decide_eq_true_eq] at h
        obtain ⟨⟨h1, h2⟩, h3⟩ := h
        rw [hb]
        match st, h2, h3 with
        | y :: r, _, h3 =>
          obtain ⟨⟨z, v2, c2⟩, hq⟩ := hs b2 h1 y v c
          simp only [hq]
          exact ih (z :: r) v2 c2 h3
      · cases h
    · rename_i ho
      rw [if_neg ho]
      split at h
      · cases h
      · rename_i h4
        rw [if_neg h4]
        unfold ac_st
        split at h
        · rename_i q; simp only [if_pos q]; exact ih (o :: st) v c h
        · rename_i q; simp only [if_neg q]
          split at h
          · rename_i q; simp only [if_pos q]; exact ih (x :: st) v c h
          · rename_i q; simp only [if_neg q]
            split at h
            · rename_i q; simp only [if_pos q]; exact ih (v :: st) v c h
            · rename_i q; simp only [if_neg q]
              split at h
              · rename_i q; simp only [if_pos q]; exact ih (c :: st) v c h
              · rename_i q; simp only [if_neg q]
                split at h
                · rename_i q; simp only [if_pos q]
                  simp only [Bool.and_eq_true, decide_eq_true_eq] at h
                  match st, h with
                  | y :: r, h => exact ih r y c h.2
                · rename_i q; simp only [if_neg q]
                  split at h
                  · rename_i q; simp only [if_pos q]
                    simp only [Bool.and_eq_true, decide_eq_true_eq] at h
                    match st, h with
                    | y :: r, h => exact ih r v y h.2
                  · rename_i q; simp only [if_neg q]
                    simp only [Bool.and_eq_true, decide_eq_true_eq] at h
                    match st, h with
                    | y :: z :: r, h => exact ih (_ :: r) v c h.2
theorem ac_h_ok : ∀ (f : Nat) (k b : Int32), ac_h f k b = true → ∀ x v c, ∃ q, ac_ev f k b x v c = some q := by
  intro f
  induction f with
  | zero => intro k b h; cases h
  | succ f ih =>
    intro k b h x v c
    unfold ac_h at h
    split at h
    · rename_i ts ht
      obtain ⟨r, v2, c2, e⟩ := ac_hx_ok (x := x) (subE := ac_ev f k) (fun b2 hb y v c => ih k b2 hb y v c) ts [] v c h
      exact ⟨(r, v2, c2), by unfold ac_ev; simp only [ht, e]⟩
    · cases h
/-- the body that an act of a kind is, if there is one -/
def ac_sl (k a : Nat) : Option Int32 := match mi_ch[(10 + k) * 12 + a]? with
  | some b => if b = -1 then none else some b
  | none => none
def ac_all (p : Nat → Nat → Int32 → Bool) : Bool := (List.range 11).all fun k => (List.range 12).all fun a => match ac_sl k a with
  | some b => p k a b
  | none => true
theorem ac_all_at {p : Nat → Nat → Int32 → Bool} (h : ac_all p = true) {k a : Nat} (hk : k < 11) (ha : a < 12) {b : Int32} (hb : ac_sl k a = some b) : p k a b = true := by
  have h1 := List.all_eq_true.mp (List.all_eq_true.mp h k (List.mem_range.mpr hk)) a (List.mem_range.mpr ha)
  rw [hb] at h1
  exact h1
set_option maxRecDepth 100000 in
theorem ac_ends : ac_all (fun k _ b => ac_h 8 (nI k) b) = true := by decide +kernel
set_option maxRecDepth 100000 in
theorem ac_short : ac_all (fun k _ b => Nat.ble (ac_tr 8 (nI k) b).length 200) = true := by decide +kernel
/-- the tokens stand in the code where the table of starts says -/
def ac_where (q : Int32 × Int32 × List Int32) : Bool := decide (ac_at mi_sta q.1 = some q.2.1) && decide (¬ q.2.1 < 0) && decide (mi_cd.drop q.2.1.toNatClampNeg = q.2.2 ++ mi_cd.drop (q.2.1.toNatClampNeg + q.2.2.length)) && (match mi_cd[q.2.1.toNatClampNeg + q.2.2.length]? with
  | some e => decide (3000 ≤ e)
  | none => false) && q.2.2.all (fun t => decide (t < 3000)) && decide (¬ q.1 < 0 ∧ q.1 < 210)
set_option maxRecDepth 100000 in
theorem ac_wheres : ac_tab.all ac_where = true := by decide +kernel
theorem ac_tk_where {b : Int32} {ts : List Int32} (h : ac_tk b = some ts) : ∃ p e rest, ac_at mi_sta b = some p ∧ ¬ p < 0 ∧ mi_cd.drop p.toNatClampNeg = ts ++ e :: rest ∧ 3000 ≤ e ∧ (∀ t ∈ ts, t < 3000) ∧ ¬ b < 0 ∧ b < 210 := by
  unfold ac_tk at h
  cases hf : ac_tab.find? (fun q => q.1 == b) with
  | none => rw [hf] at h; cases h
  | some q =>
    rw [hf] at h
    have ht : q.2.2 = ts := Option.some.inj h
    have hm := List.mem_of_find?_eq_some hf
    have hb : q.1 = b := by simpa using List.find?_some hf
    have hw := List.all_eq_true.mp ac_wheres q hm
    unfold ac_where at hw
    simp only [Bool.and_eq_true, decide_eq_true_eq] at hw
    obtain ⟨⟨⟨⟨⟨h1, h2⟩, h3⟩, h4⟩, h5⟩, h6⟩ := hw
    split at h4
    · rename_i e he
      obtain ⟨hl, hv⟩ := List.getElem?_eq_some_iff.mp he
      refine ⟨q.2.1, e, mi_cd.drop (q.2.1.toNatClampNeg + q.2.2.length + 1), by rw [← hb]; exact h1, h2, ?_, by simpa using h4, ?_, by rw [← hb]; exact h6.1, by rw [← hb]; exact h6.2⟩
      · rw [h3, ht]
        congr 1
        rw [← ht, List.drop_eq_getElem_cons hl, hv]
      · intro t htt
        rw [← ht] at htt
        simpa using List.all_eq_true.mp h5 t htt
    · cases h4
