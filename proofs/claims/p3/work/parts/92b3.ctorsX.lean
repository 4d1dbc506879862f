def kX3 (cI cZ : ClassId) (h0 : Nat) (q : Nat → Nat) : va_W := [(h0, .inr (3, [.ref (q 0), .int (-4), .int 0])), (q 0, .inl (cI, (4, .inl (fun _ => 0))))]
set_option maxRecDepth 100000 in
set_option maxHeartbeats 4000000 in
theorem tX3_init {l : Launch} {D : va_G} {cI cZ : ClassId} : CtK l D [(cI, .int), (cZ, .boolean)] EK yX3_init wsX3_init ({ frames := 1, cells := 1, slots := 4, locals := 12 } : Room) 3 [.null, .int 0, .int 0] (kX3 cI cZ) := by
  refine ctK_of (own := RX3) (cc := cX3_init) (n := 1) (by decide) rfl rfl rfl (Nat.le_of_ble_eq_true rfl) (fun h0 hin C => ?_)
  have iX3 : ∀ w ∈ wsX30, w ∈ wsX3_init := fun w h => List.mem_cons_of_mem _ (List.mem_append_right _ (inlX3 w h))
  refine k_aload_n C 0 0 dX3_init_0 rfl ?_
  refine k_obj C 1 (List.mem_cons_of_mem _ (List.mem_append_right _ wgL_4_17.1)) (List.mem_cons_of_mem _ (List.mem_append_right _ wgL_1_10.1)) (List.mem_cons_of_mem _ (List.mem_append_right _ wgL_1_11.1)) dX3_init_1 ⟨Nat.le_of_ble_eq_true rfl, Nat.le_of_ble_eq_true rfl⟩ ?_
  refine k_aload_n C 4 0 dX3_init_4 rfl ?_
  refine k_iconst C 5 4 dX3_init_5 rfl ?_
  refine k_newi C 6 0 4 (List.mem_cons_of_mem _ (List.mem_append_right _ wgL_2_16.1)) rfl (by decide) (by decide +kernel) (by decide) ⟨Nat.le_of_ble_eq_true rfl, Nat.le_of_ble_eq_true rfl⟩ dX3_init_6 (fun q1 => ?_)
  refine k_norm ([(h0, .inr (3, [.null, .int 0, .int 0])), (q1, .inl (cI, (4, .inl (fun _ => 0))))] : va_W) rfl ?_
  refine k_putF (T := TX3) C hin 8 0 0 tyX3 (.array .int) ([(h0, .inr (3, [.ref q1, .int 0, .int 0])), (q1, .inl (cI, (4, .inl (fun _ => 0))))] : va_W) iX3 tyX3_ok nmX3 rfl rfl rfl (by decide) (List.mem_cons_of_mem _ (List.mem_append_right _ wgL_4_18.1)) rfl rfl (tyX3_ok 0 (by decide)) rfl rfl (Nat.le_of_ble_eq_true rfl) dX3_init_8 ?_
  refine k_aload_n C 11 0 dX3_init_11 rfl ?_
  refine k_bipush C 12 (-4) dX3_init_12 rfl ?_
  refine k_put (T := TX3) C 14 0 1 tyX3 .int ([(h0, .inr (3, [.ref q1, .int (-4), .int 0])), (q1, .inl (cI, (4, .inl (fun _ => 0))))] : va_W) iX3 tyX3_ok nmX3 rfl rfl rfl (by decide) (List.mem_cons_of_mem _ (List.mem_append_right _ wgL_4_19.1)) rfl (tyX3_ok 1 (by decide)) rfl rfl (Nat.le_of_ble_eq_true rfl) dX3_init_14 ?_
  refine k_aload_n C 17 0 dX3_init_17 rfl ?_
  refine k_iconst C 18 0 dX3_init_18 rfl ?_
  refine k_put (T := TX3) C 19 0 2 tyX3 .int ([(h0, .inr (3, [.ref q1, .int (-4), .int 0])), (q1, .inl (cI, (4, .inl (fun _ => 0))))] : va_W) iX3 tyX3_ok nmX3 rfl rfl rfl (by decide) (List.mem_cons_of_mem _ (List.mem_append_right _ wgL_4_20.1)) rfl (tyX3_ok 2 (by decide)) rfl rfl (Nat.le_of_ble_eq_true rfl) dX3_init_19 ?_
  exact k_vret (W0 := (kX3 cI cZ)) C 22 (fun i => ([q1] : List Nat).getD i 0) [0, 1] dX3_init_22 rfl (by decide +kernel) rfl rfl
