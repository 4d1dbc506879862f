def kX4 (cI cZ : ClassId) (h0 : Nat) (q : Nat → Nat) : va_W := [(h0, .inr (4, [.ref (q 0), .ref (q 1), .ref (q 2)])), (q 0, .inl (cI, (160, .inl (fun _ => 0)))), (q 1, .inl (cI, (4, .inl (fun _ => 0)))), (q 2, .inl (cI, (4, .inl (upd (upd (upd (upd (fun _ => 0) (Int32.toNatClampNeg 0) (-4)) (Int32.toNatClampNeg 1) (-4)) (Int32.toNatClampNeg 2) (-4)) (Int32.toNatClampNeg 3) (-4)))))]
set_option maxRecDepth 100000 in
set_option maxHeartbeats 4000000 in
theorem tX4_init {l : Launch} {D : va_G} {cI cZ : ClassId} : CtK l D [(cI, .int), (cZ, .boolean)] EK yX4_init wsX4_init ({ frames := 1, cells := 3, slots := 168, locals := 12 } : Room) 4 [.null, .null, .null] (kX4 cI cZ) := by
  refine ctK_of (own := RX4) (cc := cX4_init) (n := 1) (by decide) rfl rfl rfl (Nat.le_of_ble_eq_true rfl) (fun h0 hin C => ?_)
  have iX4 : ∀ w ∈ wsX40, w ∈ wsX4_init := fun w h => List.mem_cons_of_mem _ (List.mem_append_right _ (inlX4 w h))
  refine k_aload_n C 0 0 dX4_init_0 rfl ?_
  refine k_obj C 1 (List.mem_cons_of_mem _ (List.mem_append_right _ wgL_5_6.1)) (List.mem_cons_of_mem _ (List.mem_append_right _ wgL_1_10.1)) (List.mem_cons_of_mem _ (List.mem_append_right _ wgL_1_11.1)) dX4_init_1 ⟨Nat.le_of_ble_eq_true rfl, Nat.le_of_ble_eq_true rfl⟩ ?_
  refine k_aload_n C 4 0 dX4_init_4 rfl ?_
  refine k_sipush C 5 160 dX4_init_5 rfl ?_
  refine k_newi C 8 0 160 (List.mem_cons_of_mem _ (List.mem_append_right _ wgL_2_16.1)) rfl (by decide) (by decide +kernel) (by decide) ⟨Nat.le_of_ble_eq_true rfl, Nat.le_of_ble_eq_true rfl⟩ dX4_init_8 (fun q1 => ?_)
  refine k_norm ([(h0, .inr (4, [.null, .null, .null])), (q1, .inl (cI, (160, .inl (fun _ => 0))))] : va_W) rfl ?_
  refine k_putF (T := TX4) C hin 10 0 0 tyX4 (.array .int) ([(h0, .inr (4, [.ref q1, .null, .null])), (q1, .inl (cI, (160, .inl (fun _ => 0))))] : va_W) iX4 tyX4_ok nmX4 rfl rfl rfl (by decide) (List.mem_cons_of_mem _ (List.mem_append_right _ wgL_5_7.1)) rfl rfl (tyX4_ok 0 (by decide)) rfl rfl (Nat.le_of_ble_eq_true rfl) dX4_init_10 ?_
  refine k_aload_n C 13 0 dX4_init_13 rfl ?_
  refine k_iconst C 14 4 dX4_init_14 rfl ?_
  refine k_newi C 15 0 4 (List.mem_cons_of_mem _ (List.mem_append_right _ wgL_2_16.1)) rfl (by decide) (by decide +kernel) (by decide) ⟨Nat.le_of_ble_eq_true rfl, Nat.le_of_ble_eq_true rfl⟩ dX4_init_15 (fun q2 => ?_)
  refine k_norm ([(h0, .inr (4, [.ref q1, .null, .null])), (q1, .inl (cI, (160, .inl (fun _ => 0)))), (q2, .inl (cI, (4, .inl (fun _ => 0))))] : va_W) rfl ?_
  refine k_putF (T := TX4) C hin 17 0 1 tyX4 (.array .int) ([(h0, .inr (4, [.ref q1, .ref q2, .null])), (q1, .inl (cI, (160, .inl (fun _ => 0)))), (q2, .inl (cI, (4, .inl (fun _ => 0))))] : va_W) iX4 tyX4_ok nmX4 rfl rfl rfl (by decide) (List.mem_cons_of_mem _ (List.mem_append_right _ wgL_5_8.1)) rfl rfl (tyX4_ok 1 (by decide)) rfl rfl (Nat.le_of_ble_eq_true rfl) dX4_init_17 ?_
  refine k_aload_n C 20 0 dX4_init_20 rfl ?_
  refine k_iconst C 21 4 dX4_init_21 rfl ?_
  refine k_newi C 22 0 4 (List.mem_cons_of_mem _ (List.mem_append_right _ wgL_2_16.1)) rfl (by decide) (by decide +kernel) (by decide) ⟨Nat.le_of_ble_eq_true rfl, Nat.le_of_ble_eq_true rfl⟩ dX4_init_22 (fun q3 => ?_)
  refine k_norm ([(h0, .inr (4, [.ref q1, .ref q2, .null])), (q1, .inl (cI, (160, .inl (fun _ => 0)))), (q2, .inl (cI, (4, .inl (fun _ => 0)))), (q3, .inl (cI, (4, .inl (fun _ => 0))))] : va_W) rfl ?_
  refine k_dup C 24 dX4_init_24 rfl ?_
  refine k_iconst C 25 0 dX4_init_25 rfl ?_
  refine k_bipush C 26 (-4) dX4_init_26 rfl ?_
  refine k_iast C 28 3 0 ([(h0, .inr (4, [.ref q1, .ref q2, .null])), (q1, .inl (cI, (160, .inl (fun _ => 0)))), (q2, .inl (cI, (4, .inl (fun _ => 0)))), (q3, .inl (cI, (4, .inl (upd (fun _ => 0) (Int32.toNatClampNeg 0) (-4)))))] : va_W) rfl rfl (by decide +kernel) rfl dX4_init_28 ?_
  generalize hg1 : upd (fun _ => 0) (Int32.toNatClampNeg 0) (-4) = g1
  refine k_dup C 29 dX4_init_29 rfl ?_
  refine k_iconst C 30 1 dX4_init_30 rfl ?_
  refine k_bipush C 31 (-4) dX4_init_31 rfl ?_
  refine k_iast C 33 3 0 ([(h0, .inr (4, [.ref q1, .ref q2, .null])), (q1, .inl (cI, (160, .inl (fun _ => 0)))), (q2, .inl (cI, (4, .inl (fun _ => 0)))), (q3, .inl (cI, (4, .inl (upd g1 (Int32.toNatClampNeg 1) (-4)))))] : va_W) rfl rfl (by decide +kernel) rfl dX4_init_33 ?_
  generalize hg2 : upd g1 (Int32.toNatClampNeg 1) (-4) = g2
  refine k_dup C 34 dX4_init_34 rfl ?_
  refine k_iconst C 35 2 dX4_init_35 rfl ?_
  refine k_bipush C 36 (-4) dX4_init_36 rfl ?_
  refine k_iast C 38 3 0 ([(h0, .inr (4, [.ref q1, .ref q2, .null])), (q1, .inl (cI, (160, .inl (fun _ => 0)))), (q2, .inl (cI, (4, .inl (fun _ => 0)))), (q3, .inl (cI, (4, .inl (upd g2 (Int32.toNatClampNeg 2) (-4)))))] : va_W) rfl rfl (by decide +kernel) rfl dX4_init_38 ?_
  generalize hg3 : upd g2 (Int32.toNatClampNeg 2) (-4) = g3
  refine k_dup C 39 dX4_init_39 rfl ?_
  refine k_iconst C 40 3 dX4_init_40 rfl ?_
  refine k_bipush C 41 (-4) dX4_init_41 rfl ?_
  refine k_iast C 43 3 0 ([(h0, .inr (4, [.ref q1, .ref q2, .null])), (q1, .inl (cI, (160, .inl (fun _ => 0)))), (q2, .inl (cI, (4, .inl (fun _ => 0)))), (q3, .inl (cI, (4, .inl (upd g3 (Int32.toNatClampNeg 3) (-4)))))] : va_W) rfl rfl (by decide +kernel) rfl dX4_init_43 ?_
  generalize hg4 : upd g3 (Int32.toNatClampNeg 3) (-4) = g4
  refine k_putF (T := TX4) C hin 44 0 2 tyX4 (.array .int) ([(h0, .inr (4, [.ref q1, .ref q2, .ref q3])), (q1, .inl (cI, (160, .inl (fun _ => 0)))), (q2, .inl (cI, (4, .inl (fun _ => 0)))), (q3, .inl (cI, (4, .inl g4)))] : va_W) iX4 tyX4_ok nmX4 rfl rfl rfl (by decide) (List.mem_cons_of_mem _ (List.mem_append_right _ wgL_5_9.1)) rfl rfl (tyX4_ok 2 (by decide)) rfl rfl (Nat.le_of_ble_eq_true rfl) dX4_init_44 ?_
  subst hg4
  subst hg3
  subst hg2
  subst hg1
  exact k_vret (W0 := (kX4 cI cZ)) C 47 (fun i => ([q1, q2, q3] : List Nat).getD i 0) [0, 1, 2, 3] dX4_init_47 rfl (by decide +kernel) rfl rfl
