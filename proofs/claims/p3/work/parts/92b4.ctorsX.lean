def kX1 (cI cZ : ClassId) (h0 : Nat) (q : Nat → Nat) : va_W := [(h0, .inr (1, [.ref (q 0), .ref (q 1), .ref (q 2), .int 0])), (q 0, .inl (cI, (6, .inl (fun _ => 0)))), (q 1, .inl (cI, (6, .inl (fun _ => 0)))), (q 2, .inl (cI, (6, .inl (fun _ => 0))))]
set_option maxRecDepth 100000 in
set_option maxHeartbeats 4000000 in
theorem tX1_init {l : Launch} {D : va_G} {cI cZ : ClassId} : CtK l D [(cI, .int), (cZ, .boolean)] EK yX1_init wsX1_init ({ frames := 1, cells := 3, slots := 18, locals := 12 } : Room) 1 [.null, .null, .null, .int 0] (kX1 cI cZ) := by
  refine ctK_of (own := RX1) (cc := cX1_init) (n := 1) (by decide) rfl rfl rfl (Nat.le_of_ble_eq_true rfl) (fun h0 hin C => ?_)
  have iX1 : ∀ w ∈ wsX10, w ∈ wsX1_init := fun w h => List.mem_cons_of_mem _ (List.mem_append_right _ (inlX1 w h))
  refine k_aload_n C 0 0 dX1_init_0 rfl ?_
  refine k_obj C 1 (List.mem_cons_of_mem _ (List.mem_append_right _ wgL_4_23.1)) (List.mem_cons_of_mem _ (List.mem_append_right _ wgL_1_10.1)) (List.mem_cons_of_mem _ (List.mem_append_right _ wgL_1_11.1)) dX1_init_1 ⟨Nat.le_of_ble_eq_true rfl, Nat.le_of_ble_eq_true rfl⟩ ?_
  refine k_aload_n C 4 0 dX1_init_4 rfl ?_
  refine k_bipush C 5 6 dX1_init_5 rfl ?_
  refine k_newi C 7 0 6 (List.mem_cons_of_mem _ (List.mem_append_right _ wgL_2_16.1)) rfl (by decide) (by decide +kernel) (by decide) ⟨Nat.le_of_ble_eq_true rfl, Nat.le_of_ble_eq_true rfl⟩ dX1_init_7 (fun q1 => ?_)
  refine k_norm ([(h0, .inr (1, [.null, .null, .null, .int 0])), (q1, .inl (cI, (6, .inl (fun _ => 0))))] : va_W) rfl ?_
  refine k_putF (T := TX1) C hin 9 0 0 tyX1 (.array .int) ([(h0, .inr (1, [.ref q1, .null, .null, .int 0])), (q1, .inl (cI, (6, .inl (fun _ => 0))))] : va_W) iX1 tyX1_ok nmX1 rfl rfl rfl (by decide) (List.mem_cons_of_mem _ (List.mem_append_right _ wgL_5_0.1)) rfl rfl (tyX1_ok 0 (by decide)) rfl rfl (Nat.le_of_ble_eq_true rfl) dX1_init_9 ?_
  refine k_aload_n C 12 0 dX1_init_12 rfl ?_
  refine k_bipush C 13 6 dX1_init_13 rfl ?_
  refine k_newi C 15 0 6 (List.mem_cons_of_mem _ (List.mem_append_right _ wgL_2_16.1)) rfl (by decide) (by decide +kernel) (by decide) ⟨Nat.le_of_ble_eq_true rfl, Nat.le_of_ble_eq_true rfl⟩ dX1_init_15 (fun q2 => ?_)
  refine k_norm ([(h0, .inr (1, [.ref q1, .null, .null, .int 0])), (q1, .inl (cI, (6, .inl (fun _ => 0)))), (q2, .inl (cI, (6, .inl (fun _ => 0))))] : va_W) rfl ?_
  refine k_putF (T := TX1) C hin 17 0 1 tyX1 (.array .int) ([(h0, .inr (1, [.ref q1, .ref q2, .null, .int 0])), (q1, .inl (cI, (6, .inl (fun _ => 0)))), (q2, .inl (cI, (6, .inl (fun _ => 0))))] : va_W) iX1 tyX1_ok nmX1 rfl rfl rfl (by decide) (List.mem_cons_of_mem _ (List.mem_append_right _ wgL_5_1.1)) rfl rfl (tyX1_ok 1 (by decide)) rfl rfl (Nat.le_of_ble_eq_true rfl) dX1_init_17 ?_
  refine k_aload_n C 20 0 dX1_init_20 rfl ?_
  refine k_bipush C 21 6 dX1_init_21 rfl ?_
  refine k_newi C 23 0 6 (List.mem_cons_of_mem _ (List.mem_append_right _ wgL_2_16.1)) rfl (by decide) (by decide +kernel) (by decide) ⟨Nat.le_of_ble_eq_true rfl, Nat.le_of_ble_eq_true rfl⟩ dX1_init_23 (fun q3 => ?_)
  refine k_norm ([(h0, .inr (1, [.ref q1, .ref q2, .null, .int 0])), (q1, .inl (cI, (6, .inl (fun _ => 0)))), (q2, .inl (cI, (6, .inl (fun _ => 0)))), (q3, .inl (cI, (6, .inl (fun _ => 0))))] : va_W) rfl ?_
  refine k_putF (T := TX1) C hin 25 0 2 tyX1 (.array .int) ([(h0, .inr (1, [.ref q1, .ref q2, .ref q3, .int 0])), (q1, .inl (cI, (6, .inl (fun _ => 0)))), (q2, .inl (cI, (6, .inl (fun _ => 0)))), (q3, .inl (cI, (6, .inl (fun _ => 0))))] : va_W) iX1 tyX1_ok nmX1 rfl rfl rfl (by decide) (List.mem_cons_of_mem _ (List.mem_append_right _ wgL_5_2.1)) rfl rfl (tyX1_ok 2 (by decide)) rfl rfl (Nat.le_of_ble_eq_true rfl) dX1_init_25 ?_
  refine k_aload_n C 28 0 dX1_init_28 rfl ?_
  refine k_iconst C 29 0 dX1_init_29 rfl ?_
  refine k_put (T := TX1) C 30 0 3 tyX1 .int ([(h0, .inr (1, [.ref q1, .ref q2, .ref q3, .int 0])), (q1, .inl (cI, (6, .inl (fun _ => 0)))), (q2, .inl (cI, (6, .inl (fun _ => 0)))), (q3, .inl (cI, (6, .inl (fun _ => 0))))] : va_W) iX1 tyX1_ok nmX1 rfl rfl rfl (by decide) (List.mem_cons_of_mem _ (List.mem_append_right _ wgL_5_3.1)) rfl (tyX1_ok 3 (by decide)) rfl rfl (Nat.le_of_ble_eq_true rfl) dX1_init_30 ?_
  exact k_vret (W0 := (kX1 cI cZ)) C 33 (fun i => ([q1, q2, q3] : List Nat).getD i 0) [0, 1, 2, 3] dX1_init_33 rfl (by decide +kernel) rfl rfl
