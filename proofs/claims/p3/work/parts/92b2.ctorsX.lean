def kX5 (cI cZ : ClassId) (h0 : Nat) (q : Nat → Nat) : va_W := [(h0, .inr (5, [.ref (q 0), .ref (q 1), .ref (q 2), .ref (q 3), .int 0, .int 1, .int 0])), (q 0, .inl (cI, (2, .inl (fun _ => 0)))), (q 1, .inl (cI, (2, .inl (fun _ => 0)))), (q 2, .inl (cI, (2, .inl (fun _ => 0)))), (q 3, .inl (cI, (21, .inl (fun _ => 0))))]
set_option maxRecDepth 100000 in
set_option maxHeartbeats 4000000 in
theorem tX5_init {l : Launch} {D : va_G} {cI cZ : ClassId} : CtK l D [(cI, .int), (cZ, .boolean)] EK yX5_init wsX5_init ({ frames := 1, cells := 4, slots := 27, locals := 12 } : Room) 5 [.null, .null, .null, .null, .int 0, .int 0, .int 0] (kX5 cI cZ) := by
  refine ctK_of (own := RX5) (cc := cX5_init) (n := 1) (by decide) rfl rfl rfl (Nat.le_of_ble_eq_true rfl) (fun h0 hin C => ?_)
  have iX5 : ∀ w ∈ wsX50, w ∈ wsX5_init := fun w h => List.mem_cons_of_mem _ (List.mem_append_right _ (inlX5 w h))
  refine k_aload_n C 0 0 dX5_init_0 rfl ?_
  refine k_obj C 1 (List.mem_cons_of_mem _ (List.mem_append_right _ wgL_4_7.1)) (List.mem_cons_of_mem _ (List.mem_append_right _ wgL_1_10.1)) (List.mem_cons_of_mem _ (List.mem_append_right _ wgL_1_11.1)) dX5_init_1 ⟨Nat.le_of_ble_eq_true rfl, Nat.le_of_ble_eq_true rfl⟩ ?_
  refine k_aload_n C 4 0 dX5_init_4 rfl ?_
  refine k_iconst C 5 2 dX5_init_5 rfl ?_
  refine k_newi C 6 0 2 (List.mem_cons_of_mem _ (List.mem_append_right _ wgL_2_16.1)) rfl (by decide) (by decide +kernel) (by decide) ⟨Nat.le_of_ble_eq_true rfl, Nat.le_of_ble_eq_true rfl⟩ dX5_init_6 (fun q1 => ?_)
  refine k_norm ([(h0, .inr (5, [.null, .null, .null, .null, .int 0, .int 0, .int 0])), (q1, .inl (cI, (2, .inl (fun _ => 0))))] : va_W) rfl ?_
  refine k_putF (T := TX5) C hin 8 0 0 tyX5 (.array .int) ([(h0, .inr (5, [.ref q1, .null, .null, .null, .int 0, .int 0, .int 0])), (q1, .inl (cI, (2, .inl (fun _ => 0))))] : va_W) iX5 tyX5_ok nmX5 rfl rfl rfl (by decide) (List.mem_cons_of_mem _ (List.mem_append_right _ wgL_4_8.1)) rfl rfl (tyX5_ok 0 (by decide)) rfl rfl (Nat.le_of_ble_eq_true rfl) dX5_init_8 ?_
  refine k_aload_n C 11 0 dX5_init_11 rfl ?_
  refine k_iconst C 12 2 dX5_init_12 rfl ?_
  refine k_newi C 13 0 2 (List.mem_cons_of_mem _ (List.mem_append_right _ wgL_2_16.1)) rfl (by decide) (by decide +kernel) (by decide) ⟨Nat.le_of_ble_eq_true rfl, Nat.le_of_ble_eq_true rfl⟩ dX5_init_13 (fun q2 => ?_)
  refine k_norm ([(h0, .inr (5, [.ref q1, .null, .null, .null, .int 0, .int 0, .int 0])), (q1, .inl (cI, (2, .inl (fun _ => 0)))), (q2, .inl (cI, (2, .inl (fun _ => 0))))] : va_W) rfl ?_
  refine k_putF (T := TX5) C hin 15 0 1 tyX5 (.array .int) ([(h0, .inr (5, [.ref q1, .ref q2, .null, .null, .int 0, .int 0, .int 0])), (q1, .inl (cI, (2, .inl (fun _ => 0)))), (q2, .inl (cI, (2, .inl (fun _ => 0))))] : va_W) iX5 tyX5_ok nmX5 rfl rfl rfl (by decide) (List.mem_cons_of_mem _ (List.mem_append_right _ wgL_4_9.1)) rfl rfl (tyX5_ok 1 (by decide)) rfl rfl (Nat.le_of_ble_eq_true rfl) dX5_init_15 ?_
  refine k_aload_n C 18 0 dX5_init_18 rfl ?_
  refine k_iconst C 19 2 dX5_init_19 rfl ?_
  refine k_newi C 20 0 2 (List.mem_cons_of_mem _ (List.mem_append_right _ wgL_2_16.1)) rfl (by decide) (by decide +kernel) (by decide) ⟨Nat.le_of_ble_eq_true rfl, Nat.le_of_ble_eq_true rfl⟩ dX5_init_20 (fun q3 => ?_)
  refine k_norm ([(h0, .inr (5, [.ref q1, .ref q2, .null, .null, .int 0, .int 0, .int 0])), (q1, .inl (cI, (2, .inl (fun _ => 0)))), (q2, .inl (cI, (2, .inl (fun _ => 0)))), (q3, .inl (cI, (2, .inl (fun _ => 0))))] : va_W) rfl ?_
  refine k_putF (T := TX5) C hin 22 0 2 tyX5 (.array .int) ([(h0, .inr (5, [.ref q1, .ref q2, .ref q3, .null, .int 0, .int 0, .int 0])), (q1, .inl (cI, (2, .inl (fun _ => 0)))), (q2, .inl (cI, (2, .inl (fun _ => 0)))), (q3, .inl (cI, (2, .inl (fun _ => 0))))] : va_W) iX5 tyX5_ok nmX5 rfl rfl rfl (by decide) (List.mem_cons_of_mem _ (List.mem_append_right _ wgL_4_10.1)) rfl rfl (tyX5_ok 2 (by decide)) rfl rfl (Nat.le_of_ble_eq_true rfl) dX5_init_22 ?_
  refine k_aload_n C 25 0 dX5_init_25 rfl ?_
  refine k_bipush C 26 21 dX5_init_26 rfl ?_
  refine k_newi C 28 0 21 (List.mem_cons_of_mem _ (List.mem_append_right _ wgL_2_16.1)) rfl (by decide) (by decide +kernel) (by decide) ⟨Nat.le_of_ble_eq_true rfl, Nat.le_of_ble_eq_true rfl⟩ dX5_init_28 (fun q4 => ?_)
  refine k_norm ([(h0, .inr (5, [.ref q1, .ref q2, .ref q3, .null, .int 0, .int 0, .int 0])), (q1, .inl (cI, (2, .inl (fun _ => 0)))), (q2, .inl (cI, (2, .inl (fun _ => 0)))), (q3, .inl (cI, (2, .inl (fun _ => 0)))), (q4, .inl (cI, (21, .inl (fun _ => 0))))] : va_W) rfl ?_
  refine k_putF (T := TX5) C hin 30 0 3 tyX5 (.array .int) ([(h0, .inr (5, [.ref q1, .ref q2, .ref q3, .ref q4, .int 0, .int 0, .int 0])), (q1, .inl (cI, (2, .inl (fun _ => 0)))), (q2, .inl (cI, (2, .inl (fun _ => 0)))), (q3, .inl (cI, (2, .inl (fun _ => 0)))), (q4, .inl (cI, (21, .inl (fun _ => 0))))] : va_W) iX5 tyX5_ok nmX5 rfl rfl rfl (by decide) (List.mem_cons_of_mem _ (List.mem_append_right _ wgL_4_11.1)) rfl rfl (tyX5_ok 3 (by decide)) rfl rfl (Nat.le_of_ble_eq_true rfl) dX5_init_30 ?_
  refine k_aload_n C 33 0 dX5_init_33 rfl ?_
  refine k_iconst C 34 0 dX5_init_34 rfl ?_
  refine k_put (T := TX5) C 35 0 4 tyX5 .int ([(h0, .inr (5, [.ref q1, .ref q2, .ref q3, .ref q4, .int 0, .int 0, .int 0])), (q1, .inl (cI, (2, .inl (fun _ => 0)))), (q2, .inl (cI, (2, .inl (fun _ => 0)))), (q3, .inl (cI, (2, .inl (fun _ => 0)))), (q4, .inl (cI, (21, .inl (fun _ => 0))))] : va_W) iX5 tyX5_ok nmX5 rfl rfl rfl (by decide) (List.mem_cons_of_mem _ (List.mem_append_right _ wgL_4_12.1)) rfl (tyX5_ok 4 (by decide)) rfl rfl (Nat.le_of_ble_eq_true rfl) dX5_init_35 ?_
  refine k_aload_n C 38 0 dX5_init_38 rfl ?_
  refine k_iconst C 39 1 dX5_init_39 rfl ?_
  refine k_put (T := TX5) C 40 0 5 tyX5 .int ([(h0, .inr (5, [.ref q1, .ref q2, .ref q3, .ref q4, .int 0, .int 1, .int 0])), (q1, .inl (cI, (2, .inl (fun _ => 0)))), (q2, .inl (cI, (2, .inl (fun _ => 0)))), (q3, .inl (cI, (2, .inl (fun _ => 0)))), (q4, .inl (cI, (21, .inl (fun _ => 0))))] : va_W) iX5 tyX5_ok nmX5 rfl rfl rfl (by decide) (List.mem_cons_of_mem _ (List.mem_append_right _ wgL_4_13.1)) rfl (tyX5_ok 5 (by decide)) rfl rfl (Nat.le_of_ble_eq_true rfl) dX5_init_40 ?_
  refine k_aload_n C 43 0 dX5_init_43 rfl ?_
  refine k_iconst C 44 0 dX5_init_44 rfl ?_
  refine k_put (T := TX5) C 45 0 6 tyX5 .int ([(h0, .inr (5, [.ref q1, .ref q2, .ref q3, .ref q4, .int 0, .int 1, .int 0])), (q1, .inl (cI, (2, .inl (fun _ => 0)))), (q2, .inl (cI, (2, .inl (fun _ => 0)))), (q3, .inl (cI, (2, .inl (fun _ => 0)))), (q4, .inl (cI, (21, .inl (fun _ => 0))))] : va_W) iX5 tyX5_ok nmX5 rfl rfl rfl (by decide) (List.mem_cons_of_mem _ (List.mem_append_right _ wgL_4_14.1)) rfl (tyX5_ok 6 (by decide)) rfl rfl (Nat.le_of_ble_eq_true rfl) dX5_init_45 ?_
  exact k_vret (W0 := (kX5 cI cZ)) C 48 (fun i => ([q1, q2, q3, q4] : List Nat).getD i 0) [0, 1, 2, 3, 4] dX5_init_48 rfl (by decide +kernel) rfl rfl
