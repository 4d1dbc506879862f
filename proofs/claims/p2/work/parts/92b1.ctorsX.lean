def kX2 (cI cZ : ClassId) (h0 : Nat) (q : Nat → Nat) : va_W := (h0, .inr (2, [.ref (q 0), .ref (q 1), .int 0, .int 0, .int 0, .int 0, .int 0, .int 0, .int 0])) :: ([(q 0, .inl (cI, (160, .inl (fun _ => 0))))] ++ kX0 cI cZ (q 1) (fun i => q (i + 2)))
set_option maxRecDepth 100000 in
set_option maxHeartbeats 4000000 in
theorem tX2_init {l : Launch} {D : va_G} {cI cZ : ClassId} : CtK l D [(cI, .int), (cZ, .boolean)] EK yX2_init wsX2_init ({ frames := 2, cells := 15, slots := 243, locals := 32 } : Room) 2 [.null, .null, .int 0, .int 0, .int 0, .int 0, .int 0, .int 0, .int 0] (kX2 cI cZ) := by
  refine ctK_of (own := RX2) (cc := cX2_init) (n := 1) (by decide) rfl rfl rfl (Nat.le_of_ble_eq_true rfl) (fun h0 hin C => ?_)
  have iX2 : ∀ w ∈ wsX20, w ∈ wsX2_init := fun w h => List.mem_cons_of_mem _ (List.mem_append_right _ (inlX2 w h))
  refine k_aload_n C 0 0 dX2_init_0 rfl ?_
  refine k_obj C 1 (by decide +kernel) (by decide +kernel) (by decide +kernel) dX2_init_1 ⟨Nat.le_of_ble_eq_true rfl, Nat.le_of_ble_eq_true rfl⟩ ?_
  refine k_aload_n C 4 0 dX2_init_4 rfl ?_
  refine k_sipush C 5 160 dX2_init_5 rfl ?_
  refine k_newi C 8 0 160 (by decide +kernel) rfl (by decide) (by decide +kernel) (by decide) ⟨Nat.le_of_ble_eq_true rfl, Nat.le_of_ble_eq_true rfl⟩ dX2_init_8 (fun q1 => ?_)
  refine k_putF (T := TX2) C hin 10 0 0 tyX2 (.array .int) ((h0, .inr (2, [.ref q1, .null, .int 0, .int 0, .int 0, .int 0, .int 0, .int 0, .int 0])) :: (([] : va_W) ++ [(q1, .inl (cI, (160, .inl (fun _ => 0))))])) iX2 tyX2_ok nmX2 rfl rfl rfl (by decide) (by decide +kernel) rfl rfl (by decide +kernel) rfl rfl (Nat.le_of_ble_eq_true rfl) dX2_init_10 ?_
  refine k_aload_n C 13 0 dX2_init_13 rfl ?_
  refine k_new (ci := 0) (Cn := RX0) (T := TX0) C 14 tyX0 [.int 0, .int 0, .int 0, .int 0, .null, .null, .null, .null, .null, .null, .null, .null, .null, .null, .null, .null, .null] (fun w h => List.mem_cons_of_mem _ (List.mem_append_right _ (inlX0 w h))) tyX0_ok (by decide +kernel) (by decide +kernel) (by decide +kernel) rfl (fun j hj => match j, hj with | 0, _ => rfl | 1, _ => rfl | 2, _ => rfl | 3, _ => rfl | 4, _ => rfl | 5, _ => rfl | 6, _ => rfl | 7, _ => rfl | 8, _ => rfl | 9, _ => rfl | 10, _ => rfl | 11, _ => rfl | 12, _ => rfl | 13, _ => rfl | 14, _ => rfl | 15, _ => rfl | 16, _ => rfl | k + 17, h => absurd h (by omega)) ⟨Nat.le_of_ble_eq_true rfl, Nat.le_of_ble_eq_true rfl⟩ dX2_init_14 (fun q2 => ?_)
  refine k_dup C 17 dX2_init_17 rfl ?_
  refine k_call (st := [.ref q2, .ref h0]) C EK_ok EK_vm 18 ((h0, .inr (2, [.ref q1, .null, .int 0, .int 0, .int 0, .int 0, .int 0, .int 0, .int 0])) :: (([] : va_W) ++ [(q1, .inl (cI, (160, .inl (fun _ => 0))))])) (tX0_init (l := l) (D := D)) ggX2_init_X0_init rfl (EK_n7 C.2.2.2.2.2.2.2.2.1) (by decide +kernel) (by decide +kernel) rfl (by decide +kernel) ⟨Nat.le_of_ble_eq_true rfl, Nat.le_of_ble_eq_true rfl⟩ ⟨Nat.le_of_ble_eq_true rfl, Nat.le_of_ble_eq_true rfl⟩ rfl (Nat.le_of_ble_eq_true rfl) dX2_init_18 (fun a3 => ?_)
  refine k_putF (T := TX2) C hin 21 0 1 tyX2 (.object "SnuffCourt$Court") ((h0, .inr (2, [.ref q1, .ref q2, .int 0, .int 0, .int 0, .int 0, .int 0, .int 0, .int 0])) :: ((([] : va_W) ++ [(q1, .inl (cI, (160, .inl (fun _ => 0))))]) ++ kX0 cI cZ q2 a3)) iX2 tyX2_ok nmX2 rfl rfl rfl (by decide) (by decide +kernel) rfl rfl (by decide +kernel) rfl rfl (Nat.le_of_ble_eq_true rfl) dX2_init_21 ?_
  refine k_aload_n C 24 0 dX2_init_24 rfl ?_
  refine k_iconst C 25 0 dX2_init_25 rfl ?_
  refine k_put (T := TX2) C 26 0 2 tyX2 .int ((h0, .inr (2, [.ref q1, .ref q2, .int 0, .int 0, .int 0, .int 0, .int 0, .int 0, .int 0])) :: ((([] : va_W) ++ [(q1, .inl (cI, (160, .inl (fun _ => 0))))]) ++ kX0 cI cZ q2 a3)) iX2 tyX2_ok nmX2 rfl rfl rfl (by decide) (by decide +kernel) rfl (by decide +kernel) rfl rfl (Nat.le_of_ble_eq_true rfl) dX2_init_26 ?_
  refine k_aload_n C 29 0 dX2_init_29 rfl ?_
  refine k_iconst C 30 0 dX2_init_30 rfl ?_
  refine k_put (T := TX2) C 31 0 3 tyX2 .int ((h0, .inr (2, [.ref q1, .ref q2, .int 0, .int 0, .int 0, .int 0, .int 0, .int 0, .int 0])) :: ((([] : va_W) ++ [(q1, .inl (cI, (160, .inl (fun _ => 0))))]) ++ kX0 cI cZ q2 a3)) iX2 tyX2_ok nmX2 rfl rfl rfl (by decide) (by decide +kernel) rfl (by decide +kernel) rfl rfl (Nat.le_of_ble_eq_true rfl) dX2_init_31 ?_
  refine k_aload_n C 34 0 dX2_init_34 rfl ?_
  refine k_iconst C 35 0 dX2_init_35 rfl ?_
  refine k_put (T := TX2) C 36 0 4 tyX2 .boolean ((h0, .inr (2, [.ref q1, .ref q2, .int 0, .int 0, .int 0, .int 0, .int 0, .int 0, .int 0])) :: ((([] : va_W) ++ [(q1, .inl (cI, (160, .inl (fun _ => 0))))]) ++ kX0 cI cZ q2 a3)) iX2 tyX2_ok nmX2 rfl rfl rfl (by decide) (by decide +kernel) rfl (by decide +kernel) rfl rfl (Nat.le_of_ble_eq_true rfl) dX2_init_36 ?_
  refine k_aload_n C 39 0 dX2_init_39 rfl ?_
  refine k_iconst C 40 0 dX2_init_40 rfl ?_
  refine k_put (T := TX2) C 41 0 5 tyX2 .int ((h0, .inr (2, [.ref q1, .ref q2, .int 0, .int 0, .int 0, .int 0, .int 0, .int 0, .int 0])) :: ((([] : va_W) ++ [(q1, .inl (cI, (160, .inl (fun _ => 0))))]) ++ kX0 cI cZ q2 a3)) iX2 tyX2_ok nmX2 rfl rfl rfl (by decide) (by decide +kernel) rfl (by decide +kernel) rfl rfl (Nat.le_of_ble_eq_true rfl) dX2_init_41 ?_
  refine k_aload_n C 44 0 dX2_init_44 rfl ?_
  refine k_iconst C 45 0 dX2_init_45 rfl ?_
  refine k_put (T := TX2) C 46 0 6 tyX2 .int ((h0, .inr (2, [.ref q1, .ref q2, .int 0, .int 0, .int 0, .int 0, .int 0, .int 0, .int 0])) :: ((([] : va_W) ++ [(q1, .inl (cI, (160, .inl (fun _ => 0))))]) ++ kX0 cI cZ q2 a3)) iX2 tyX2_ok nmX2 rfl rfl rfl (by decide) (by decide +kernel) rfl (by decide +kernel) rfl rfl (Nat.le_of_ble_eq_true rfl) dX2_init_46 ?_
  refine k_aload_n C 49 0 dX2_init_49 rfl ?_
  refine k_iconst C 50 0 dX2_init_50 rfl ?_
  refine k_put (T := TX2) C 51 0 7 tyX2 .int ((h0, .inr (2, [.ref q1, .ref q2, .int 0, .int 0, .int 0, .int 0, .int 0, .int 0, .int 0])) :: ((([] : va_W) ++ [(q1, .inl (cI, (160, .inl (fun _ => 0))))]) ++ kX0 cI cZ q2 a3)) iX2 tyX2_ok nmX2 rfl rfl rfl (by decide) (by decide +kernel) rfl (by decide +kernel) rfl rfl (Nat.le_of_ble_eq_true rfl) dX2_init_51 ?_
  refine k_aload_n C 54 0 dX2_init_54 rfl ?_
  refine k_iconst C 55 0 dX2_init_55 rfl ?_
  refine k_put (T := TX2) C 56 0 8 tyX2 .int ((h0, .inr (2, [.ref q1, .ref q2, .int 0, .int 0, .int 0, .int 0, .int 0, .int 0, .int 0])) :: ((([] : va_W) ++ [(q1, .inl (cI, (160, .inl (fun _ => 0))))]) ++ kX0 cI cZ q2 a3)) iX2 tyX2_ok nmX2 rfl rfl rfl (by decide) (by decide +kernel) rfl (by decide +kernel) rfl rfl (Nat.le_of_ble_eq_true rfl) dX2_init_56 ?_
  exact k_vret (W0 := (kX2 cI cZ)) C 59 (fun i => if i = 0 then q1 else if i = 1 then q2 else if i < 15 then a3 (i - 2) else 0) [0, 1, 2, 3, 4, 5, 6, 7, 8, 9, 10, 11, 12, 13, 14, 15] dX2_init_59 rfl (by decide +kernel) rfl rfl
