/-! the class constructor; the state of new objects -/
def ct_C_h0 : mi_H := [.inl (3, [.null, .null, .null, .int 0, .int 0, .int 0, .int 0, .int 0])]
def S0 : sT := (0, 0, 0, (List.replicate 64 0, 0), List.replicate 300 0, List.replicate 300 0, List.replicate 300 0, List.replicate 300 0, List.replicate 400 0, List.replicate 400 0)
def ct_C_h1 : mi_H := ct_B_h11.set 0 (.inl (3, [.ref 1, .null, .null, .int 0, .int 0, .int 0, .int 0, .int 0])) ++ [(.inr (2, .inr (List.replicate 300 none)) : mi_C)]
def ct_C_h2 : mi_H := ct_C_h1.set 0 (.inl (3, [.ref 1, .ref 4, .null, .int 0, .int 0, .int 0, .int 0, .int 0])) ++ [(.inr (2, .inr (List.replicate 300 none)) : mi_C)]
theorem ct_C_all : mi_WC 6 36 [.ref 0] ct_C_h0 (fun r h' => r = none ∧ h' = kh 0 0 0 0 0 (List.replicate 64 0, 0) (List.replicate 300 none) (List.replicate 300 none) []) := by
  refine mi_WC.of (X := mi_m36) rfl (Nat.le_of_ble_eq_true rfl) ?_
  refine w_aload_n mi_a36_0 rfl ?_
  refine w_objInit mi_a36_1 rfl (Nat.le_of_ble_eq_true rfl) ?_
  refine w_aload_n mi_a36_4 rfl ?_
  refine w_new mi_a36_5 rfl rfl ?_
  show mi_W 5 mi_m36 (8, _, .ref 1 :: .ref 0 :: [], ct_B_h0) _
  refine w_dup mi_a36_8 rfl ?_
  refine w_callI mi_a36_9 rfl rfl rfl 0 ⟨rfl, rfl⟩ ⟨Nat.le_of_ble_eq_true rfl, Nat.le_of_ble_eq_true rfl⟩ rfl (show ct_B_h0[1]? = some (.inl (0, [.null, .null, .int 0])) from rfl) rfl rfl (ct_B_all (Q := fun r h => r = none ∧ h = ct_B_h11) ⟨rfl, rfl⟩) ?_
  rintro r' h' ⟨rfl, rfl⟩
  refine w_put mi_a36_12 rfl (show ct_B_h11[0]? = some (.inl (3, [.null, .null, .null, .int 0, .int 0, .int 0, .int 0, .int 0])) from rfl) (Nat.le_of_ble_eq_true rfl) rfl ?_
  refine w_aload_n mi_a36_15 rfl ?_
  refine w_sipushv (v := 300) mi_a36_16 (by decide) ?_
  refine mi_W.step (F' := (22, [some (.ref 0)], [.ref 4, .ref 0], ct_C_h1)) (mi_stp mi_a36_19 rfl) ?_
  refine w_put mi_a36_22 rfl (show ct_C_h1[0]? = some (.inl (3, [.ref 1, .null, .null, .int 0, .int 0, .int 0, .int 0, .int 0])) from rfl) (Nat.le_of_ble_eq_true rfl) rfl ?_
  refine w_aload_n mi_a36_25 rfl ?_
  refine w_sipushv (v := 300) mi_a36_26 (by decide) ?_
  refine mi_W.step (F' := (32, [some (.ref 0)], [.ref 5, .ref 0], ct_C_h2)) (mi_stp mi_a36_29 rfl) ?_
  refine w_put mi_a36_32 rfl (show ct_C_h2[0]? = some (.inl (3, [.ref 1, .ref 4, .null, .int 0, .int 0, .int 0, .int 0, .int 0])) from rfl) (Nat.le_of_ble_eq_true rfl) rfl ?_
  exact w_vreturn mi_a36_35 rfl ⟨rfl, rfl⟩
theorem z_at {n i : Nat} (h : i < n) : (List.replicate n (0 : Int32))[i]? = some 0 := by rw [List.getElem?_replicate, if_pos h]
theorem sI_0 : sI S0 := ⟨Nat.zero_le _, Nat.zero_le _, List.length_replicate, by show 0 < 2 ^ 20; decide, List.length_replicate, List.length_replicate, List.length_replicate, List.length_replicate, List.length_replicate, List.length_replicate, fun i h => absurd h (Nat.not_lt_zero _), fun i h => absurd h (Nat.not_lt_zero _), fun i _ h => ⟨z_at h, z_at h⟩⟩
theorem cR_0 : cR 0 S0 (kh 0 0 0 0 0 (List.replicate 64 0, 0) (List.replicate 300 none) (List.replicate 300 none) []) := ⟨0, 0, _, _, [], id, id, id, fun _ => 0, Nat.le_refl _, List.length_replicate, List.length_replicate, rfl, fun c h => absurd h List.not_mem_nil, fun i h => absurd h (Nat.not_lt_zero _), ⟨fun i j h => absurd h (Nat.not_lt_zero _), fun i j h => absurd h (Nat.not_lt_zero _), fun i h => absurd h (Nat.not_lt_zero _), fun i h => absurd h (Nat.not_lt_zero _)⟩, rfl⟩
theorem ct_M_mh : ct_M_h10 = mh 0 0 0 0 0 (List.replicate 64 0, 0) (List.replicate 300 0) (List.replicate 300 0) (List.replicate 300 0) (List.replicate 300 0) (List.replicate 400 0) (List.replicate 400 0) (List.replicate 300 0) (List.replicate 300 0) (List.replicate 300 0) (List.replicate 100 0) (List.replicate 100 0) (List.replicate 100 0) (List.replicate 300 0) := by
  have e : mi_fchk (some (0, [], [], ct_M_h10)) (0, [], [], mh 0 0 0 0 0 (List.replicate 64 0, 0) (List.replicate 300 0) (List.replicate 300 0) (List.replicate 300 0) (List.replicate 300 0) (List.replicate 400 0) (List.replicate 400 0) (List.replicate 300 0) (List.replicate 300 0) (List.replicate 300 0) (List.replicate 100 0) (List.replicate 100 0) (List.replicate 100 0) (List.replicate 300 0)) = true := by decide +kernel
  have f := Option.some.inj (mi_fchk_ok e)
  exact congrArg (fun F => F.2.2.2) f
theorem mR_0 : mR S0 ct_M_h10 := ⟨0, 0, List.replicate 300 0, List.replicate 300 0, List.replicate 300 0, List.replicate 100 0, List.replicate 100 0, List.replicate 100 0, List.replicate 300 0, List.length_replicate, List.length_replicate, List.length_replicate, List.length_replicate, List.length_replicate, List.length_replicate, List.length_replicate, ct_M_mh⟩
