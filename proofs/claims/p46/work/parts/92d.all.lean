section
def adM (h0 : Nat) (q : Nat → Nat) : Nat → Nat := fun i => if i = 0 then h0 else q i
set_option maxRecDepth 100000 in
set_option maxHeartbeats 4000000 in
theorem wM_list (ad : Nat → Nat) (cI cZ : ClassId) (u : St) : wM ad cI cZ u = [(ad 0, .inr (7, [.ref (ad 1), .ref (ad 2), .int (u.1 0), .int (u.1 1), .ref (ad 3), .int (u.1 2), .int (u.1 3), .int (u.1 4), .int (u.1 5), .int (u.1 6), .ref (ad 4), .int (u.1 7), .int (u.1 8), .int (u.1 9), .int (u.1 10), .int (u.1 11), .int (u.1 12), .int (u.1 13), .int (u.1 14), .ref (ad 5), .ref (ad 6), .int (u.1 15), .int (u.1 16), .int (u.1 17), .int (u.1 18), .int (u.1 19), .int (u.1 20), .ref (ad 7), .ref (ad 8), .int (u.1 21), .ref (ad 9), .ref (ad 13), .ref (ad 10), .ref (ad 11), .ref (ad 12), .int (u.1 22)])), (ad 1, .inl (cI, (408, .inl (u.2 0)))), (ad 2, .inl (cI, (4, .inl (u.2 1)))), (ad 3, .inl (cI, (68, .inl (u.2 2)))), (ad 4, .inl (cI, (160, .inl (u.2 3)))), (ad 5, .inl (cI, (12, .inl (u.2 4)))), (ad 6, .inl (cI, (53, .inl (u.2 5)))), (ad 7, .inl (cI, (100, .inl (u.2 6)))), (ad 8, .inl (cI, (18, .inl (u.2 7)))), (ad 9, .inl (cI, (16, .inl (u.2 8)))), (ad 10, .inl (cI, (4, .inl (u.2 9)))), (ad 11, .inl (cI, (4, .inl (u.2 10)))), (ad 12, .inl (cI, (160, .inl (u.2 11)))), (ad 13, .inl (cZ, (2, .inl (u.2 12))))] := rfl
set_option maxRecDepth 100000 in
set_option maxHeartbeats 4000000 in
theorem permM (cI cZ : ClassId) (h0 : Nat) (q1 : Nat) (q2 : Nat) (q3 : Nat) (q4 : Nat) (q5 : Nat) (q6 : Nat) (q7 : Nat) (q8 : Nat) (q9 : Nat) (q10 : Nat) (q11 : Nat) (q12 : Nat) (q13 : Nat) : ([0, 1, 2, 3, 4, 5, 6, 7, 8, 9, 11, 12, 13, 10] : List Nat).map (fun i => ([(h0, .inr (7, [.ref q1, .ref q2, .int 0, .int 0, .ref q3, .int 0, .int 0, .int 0, .int 0, .int 0, .ref q4, .int 0, .int 0, .int 0, .int 0, .int 0, .int 0, .int 0, .int 0, .ref q5, .ref q6, .int 0, .int 0, .int 0, .int 0, .int 0, .int 0, .ref q7, .ref q8, .int 0, .ref q9, .ref q10, .ref q11, .ref q12, .ref q13, .int 0])), (q1, .inl (cI, (408, .inl (fun _ => 0)))), (q2, .inl (cI, (4, .inl (upd (upd (upd (upd (fun _ => 0) (Int32.toNatClampNeg 0) 3) (Int32.toNatClampNeg 1) 2) (Int32.toNatClampNeg 2) 1) (Int32.toNatClampNeg 3) 6)))), (q3, .inl (cI, (68, .inl (fun _ => 0)))), (q4, .inl (cI, (160, .inl (fun _ => 0)))), (q5, .inl (cI, (12, .inl (upd (upd (upd (upd (upd (upd (upd (upd (upd (upd (upd (upd (fun _ => 0) (Int32.toNatClampNeg 0) 0) (Int32.toNatClampNeg 1) 6) (Int32.toNatClampNeg 2) 9) (Int32.toNatClampNeg 3) 13) (Int32.toNatClampNeg 4) 18) (Int32.toNatClampNeg 5) 23) (Int32.toNatClampNeg 6) 27) (Int32.toNatClampNeg 7) 32) (Int32.toNatClampNeg 8) 36) (Int32.toNatClampNeg 9) 40) (Int32.toNatClampNeg 10) 47) (Int32.toNatClampNeg 11) 53)))), (q6, .inl (cI, (53, .inl (upd (upd (upd (upd (upd (upd (upd (upd (upd (upd (upd (upd (upd (upd (upd (upd (upd (upd (upd (upd (upd (upd (upd (upd (upd (upd (upd (upd (upd (upd (upd (upd (upd (upd (upd (upd (upd (upd (upd (upd (upd (upd (upd (upd (upd (upd (upd (upd (upd (upd (upd (upd (upd (fun _ => 0) (Int32.toNatClampNeg 0) 116) (Int32.toNatClampNeg 1) 97) (Int32.toNatClampNeg 2) 108) (Int32.toNatClampNeg 3) 108) (Int32.toNatClampNeg 4) 111) (Int32.toNatClampNeg 5) 119) (Int32.toNatClampNeg 6) 119) (Int32.toNatClampNeg 7) 97) (Int32.toNatClampNeg 8) 120) (Int32.toNatClampNeg 9) 98) (Int32.toNatClampNeg 10) 101) (Int32.toNatClampNeg 11) 101) (Int32.toNatClampNeg 12) 115) (Int32.toNatClampNeg 13) 116) (Int32.toNatClampNeg 14) 104) (Int32.toNatClampNeg 15) 105) (Int32.toNatClampNeg 16) 101) (Int32.toNatClampNeg 17) 102) (Int32.toNatClampNeg 18) 102) (Int32.toNatClampNeg 19) 105) (Int32.toNatClampNeg 20) 114) (Int32.toNatClampNeg 21) 115) (Int32.toNatClampNeg 22) 116) (Int32.toNatClampNeg 23) 108) (Int32.toNatClampNeg 24) 111) (Int32.toNatClampNeg 25) 110) (Int32.toNatClampNeg 26) 103) (Int32.toNatClampNeg 27) 115) (Int32.toNatClampNeg 28) 104) (Int32.toNatClampNeg 29) 111) (Int32.toNatClampNeg 30) 114) (Int32.toNatClampNeg 31) 116) (Int32.toNatClampNeg 32) 98) (Int32.toNatClampNeg 33) 97) (Int32.toNatClampNeg 34) 114) (Int32.toNatClampNeg 35) 101) (Int32.toNatClampNeg 36) 99) (Int32.toNatClampNeg 37) 97) (Int32.toNatClampNeg 38) 115) (Int32.toNatClampNeg 39) 101) (Int32.toNatClampNeg 40) 100) (Int32.toNatClampNeg 41) 114) (Int32.toNatClampNeg 42) 97) (Int32.toNatClampNeg 43) 117) (Int32.toNatClampNeg 44) 103) (Int32.toNatClampNeg 45) 104) (Int32.toNatClampNeg 46) 116) (Int32.toNatClampNeg 47) 100) (Int32.toNatClampNeg 48) 111) (Int32.toNatClampNeg 49) 99) (Int32.toNatClampNeg 50) 107) (Int32.toNatClampNeg 51) 101) (Int32.toNatClampNeg 52) 116)))), (q7, .inl (cI, (100, .inl (fun _ => 0)))), (q8, .inl (cI, (18, .inl (fun _ => 0)))), (q9, .inl (cI, (16, .inl (fun _ => 0)))), (q10, .inl (cZ, (2, .inl (fun _ => 0)))), (q11, .inl (cI, (4, .inl (upd (upd (upd (upd (fun _ => 0) (Int32.toNatClampNeg 0) (-4)) (Int32.toNatClampNeg 1) (-4)) (Int32.toNatClampNeg 2) (-4)) (Int32.toNatClampNeg 3) (-4))))), (q12, .inl (cI, (4, .inl (fun _ => 0)))), (q13, .inl (cI, (160, .inl (fun _ => 0))))] : va_W)[i]?) = (wM (adM h0 (fun i => ([h0, q1, q2, q3, q4, q5, q6, q7, q8, q9, q11, q12, q13, q10] : List Nat).getD i 0)) cI cZ u0M).map some := by
  rw [wM_list]
  rfl
set_option maxRecDepth 100000 in
set_option maxHeartbeats 4000000 in
theorem tX7_init {l : Launch} {D : va_G} {cI cZ : ClassId} : CtK l D [(cI, .int), (cZ, .boolean)] E0 yX7_init wsX7_init ({ frames := 1, cells := 13, slots := 1009, locals := 12 } : Room) 7 [.null, .null, .int 0, .int 0, .null, .int 0, .int 0, .int 0, .int 0, .int 0, .null, .int 0, .int 0, .int 0, .int 0, .int 0, .int 0, .int 0, .int 0, .null, .null, .int 0, .int 0, .int 0, .int 0, .int 0, .int 0, .null, .null, .int 0, .null, .null, .null, .null, .null, .int 0] (fun h0 q => wM (adM h0 q) cI cZ u0M) := by
  refine ctK_of (own := RX7) (cc := cX7_init) (n := 1) (by decide) rfl rfl rfl (Nat.le_of_ble_eq_true rfl) (fun h0 hin C => ?_)
  have iX7 : ∀ w ∈ wsX70, w ∈ wsX7_init := fun w h => List.mem_cons_of_mem _ (List.mem_append_right _ (inlX7 w h))
  refine k_aload_n C 0 0 dX7_init_0 rfl ?_
  refine k_obj C 1 (List.mem_cons_of_mem _ (List.mem_append_right _ wgL_5_13.1)) (List.mem_cons_of_mem _ (List.mem_append_right _ wgL_1_10.1)) (List.mem_cons_of_mem _ (List.mem_append_right _ wgL_1_11.1)) dX7_init_1 ⟨Nat.le_of_ble_eq_true rfl, Nat.le_of_ble_eq_true rfl⟩ ?_
  refine k_aload_n C 4 0 dX7_init_4 rfl ?_
  refine k_sipush C 5 408 dX7_init_5 rfl ?_
  refine k_newi C 8 0 408 (List.mem_cons_of_mem _ (List.mem_append_right _ wgL_2_16.1)) rfl (by decide) (by decide +kernel) (by decide) ⟨Nat.le_of_ble_eq_true rfl, Nat.le_of_ble_eq_true rfl⟩ dX7_init_8 (fun q1 => ?_)
  refine k_norm ([(h0, .inr (7, [.null, .null, .int 0, .int 0, .null, .int 0, .int 0, .int 0, .int 0, .int 0, .null, .int 0, .int 0, .int 0, .int 0, .int 0, .int 0, .int 0, .int 0, .null, .null, .int 0, .int 0, .int 0, .int 0, .int 0, .int 0, .null, .null, .int 0, .null, .null, .null, .null, .null, .int 0])), (q1, .inl (cI, (408, .inl (fun _ => 0))))] : va_W) rfl ?_
  refine k_putF (T := TX7) C hin 10 0 0 tyX7 (.array .int) ([(h0, .inr (7, [.ref q1, .null, .int 0, .int 0, .null, .int 0, .int 0, .int 0, .int 0, .int 0, .null, .int 0, .int 0, .int 0, .int 0, .int 0, .int 0, .int 0, .int 0, .null, .null, .int 0, .int 0, .int 0, .int 0, .int 0, .int 0, .null, .null, .int 0, .null, .null, .null, .null, .null, .int 0])), (q1, .inl (cI, (408, .inl (fun _ => 0))))] : va_W) iX7 tyX7_ok nmX7 rfl rfl rfl (by decide) (List.mem_cons_of_mem _ (List.mem_append_right _ wgL_5_14.1)) rfl rfl (tyX7_ok 0 (by decide)) rfl rfl (Nat.le_of_ble_eq_true rfl) dX7_init_10 ?_
  refine k_aload_n C 13 0 dX7_init_13 rfl ?_
  refine k_iconst C 14 4 dX7_init_14 rfl ?_
  refine k_newi C 15 0 4 (List.mem_cons_of_mem _ (List.mem_append_right _ wgL_2_16.1)) rfl (by decide) (by decide +kernel) (by decide) ⟨Nat.le_of_ble_eq_true rfl, Nat.le_of_ble_eq_true rfl⟩ dX7_init_15 (fun q2 => ?_)
  refine k_norm ([(h0, .inr (7, [.ref q1, .null, .int 0, .int 0, .null, .int 0, .int 0, .int 0, .int 0, .int 0, .null, .int 0, .int 0, .int 0, .int 0, .int 0, .int 0, .int 0, .int 0, .null, .null, .int 0, .int 0, .int 0, .int 0, .int 0, .int 0, .null, .null, .int 0, .null, .null, .null, .null, .null, .int 0])), (q1, .inl (cI, (408, .inl (fun _ => 0)))), (q2, .inl (cI, (4, .inl (fun _ => 0))))] : va_W) rfl ?_
  refine k_dup C 17 dX7_init_17 rfl ?_
  refine k_iconst C 18 0 dX7_init_18 rfl ?_
  refine k_iconst C 19 3 dX7_init_19 rfl ?_
  refine k_iast C 20 2 0 ([(h0, .inr (7, [.ref q1, .null, .int 0, .int 0, .null, .int 0, .int 0, .int 0, .int 0, .int 0, .null, .int 0, .int 0, .int 0, .int 0, .int 0, .int 0, .int 0, .int 0, .null, .null, .int 0, .int 0, .int 0, .int 0, .int 0, .int 0, .null, .null, .int 0, .null, .null, .null, .null, .null, .int 0])), (q1, .inl (cI, (408, .inl (fun _ => 0)))), (q2, .inl (cI, (4, .inl (upd (fun _ => 0) (Int32.toNatClampNeg 0) 3))))] : va_W) rfl rfl (by decide +kernel) rfl dX7_init_20 ?_
  generalize hg1 : upd (fun _ => 0) (Int32.toNatClampNeg 0) 3 = g1
  refine k_dup C 21 dX7_init_21 rfl ?_
  refine k_iconst C 22 1 dX7_init_22 rfl ?_
  refine k_iconst C 23 2 dX7_init_23 rfl ?_
  refine k_iast C 24 2 0 ([(h0, .inr (7, [.ref q1, .null, .int 0, .int 0, .null, .int 0, .int 0, .int 0, .int 0, .int 0, .null, .int 0, .int 0, .int 0, .int 0, .int 0, .int 0, .int 0, .int 0, .null, .null, .int 0, .int 0, .int 0, .int 0, .int 0, .int 0, .null, .null, .int 0, .null, .null, .null, .null, .null, .int 0])), (q1, .inl (cI, (408, .inl (fun _ => 0)))), (q2, .inl (cI, (4, .inl (upd g1 (Int32.toNatClampNeg 1) 2))))] : va_W) rfl rfl (by decide +kernel) rfl dX7_init_24 ?_
  generalize hg2 : upd g1 (Int32.toNatClampNeg 1) 2 = g2
  refine k_dup C 25 dX7_init_25 rfl ?_
  refine k_iconst C 26 2 dX7_init_26 rfl ?_
  refine k_iconst C 27 1 dX7_init_27 rfl ?_
  refine k_iast C 28 2 0 ([(h0, .inr (7, [.ref q1, .null, .int 0, .int 0, .null, .int 0, .int 0, .int 0, .int 0, .int 0, .null, .int 0, .int 0, .int 0, .int 0, .int 0, .int 0, .int 0, .int 0, .null, .null, .int 0, .int 0, .int 0, .int 0, .int 0, .int 0, .null, .null, .int 0, .null, .null, .null, .null, .null, .int 0])), (q1, .inl (cI, (408, .inl (fun _ => 0)))), (q2, .inl (cI, (4, .inl (upd g2 (Int32.toNatClampNeg 2) 1))))] : va_W) rfl rfl (by decide +kernel) rfl dX7_init_28 ?_
  generalize hg3 : upd g2 (Int32.toNatClampNeg 2) 1 = g3
  refine k_dup C 29 dX7_init_29 rfl ?_
  refine k_iconst C 30 3 dX7_init_30 rfl ?_
  refine k_bipush C 31 6 dX7_init_31 rfl ?_
  refine k_iast C 33 2 0 ([(h0, .inr (7, [.ref q1, .null, .int 0, .int 0, .null, .int 0, .int 0, .int 0, .int 0, .int 0, .null, .int 0, .int 0, .int 0, .int 0, .int 0, .int 0, .int 0, .int 0, .null, .null, .int 0, .int 0, .int 0, .int 0, .int 0, .int 0, .null, .null, .int 0, .null, .null, .null, .null, .null, .int 0])), (q1, .inl (cI, (408, .inl (fun _ => 0)))), (q2, .inl (cI, (4, .inl (upd g3 (Int32.toNatClampNeg 3) 6))))] : va_W) rfl rfl (by decide +kernel) rfl dX7_init_33 ?_
  generalize hg4 : upd g3 (Int32.toNatClampNeg 3) 6 = g4
  refine k_putF (T := TX7) C hin 34 0 1 tyX7 (.array .int) ([(h0, .inr (7, [.ref q1, .ref q2, .int 0, .int 0, .null, .int 0, .int 0, .int 0, .int 0, .int 0, .null, .int 0, .int 0, .int 0, .int 0, .int 0, .int 0, .int 0, .int 0, .null, .null, .int 0, .int 0, .int 0, .int 0, .int 0, .int 0, .null, .null, .int 0, .null, .null, .null, .null, .null, .int 0])), (q1, .inl (cI, (408, .inl (fun _ => 0)))), (q2, .inl (cI, (4, .inl g4)))] : va_W) iX7 tyX7_ok nmX7 rfl rfl rfl (by decide) (List.mem_cons_of_mem _ (List.mem_append_right _ wgL_5_15.1)) rfl rfl (tyX7_ok 1 (by decide)) rfl rfl (Nat.le_of_ble_eq_true rfl) dX7_init_34 ?_
  refine k_aload_n C 37 0 dX7_init_37 rfl ?_
  refine k_bipush C 38 68 dX7_init_38 rfl ?_
  refine k_newi C 40 0 68 (List.mem_cons_of_mem _ (List.mem_append_right _ wgL_2_16.1)) rfl (by decide) (by decide +kernel) (by decide) ⟨Nat.le_of_ble_eq_true rfl, Nat.le_of_ble_eq_true rfl⟩ dX7_init_40 (fun q3 => ?_)
  refine k_norm ([(h0, .inr (7, [.ref q1, .ref q2, .int 0, .int 0, .null, .int 0, .int 0, .int 0, .int 0, .int 0, .null, .int 0, .int 0, .int 0, .int 0, .int 0, .int 0, .int 0, .int 0, .null, .null, .int 0, .int 0, .int 0, .int 0, .int 0, .int 0, .null, .null, .int 0, .null, .null, .null, .null, .null, .int 0])), (q1, .inl (cI, (408, .inl (fun _ => 0)))), (q2, .inl (cI, (4, .inl g4))), (q3, .inl (cI, (68, .inl (fun _ => 0))))] : va_W) rfl ?_
  refine k_putF (T := TX7) C hin 42 0 4 tyX7 (.array .int) ([(h0, .inr (7, [.ref q1, .ref q2, .int 0, .int 0, .ref q3, .int 0, .int 0, .int 0, .int 0, .int 0, .null, .int 0, .int 0, .int 0, .int 0, .int 0, .int 0, .int 0, .int 0, .null, .null, .int 0, .int 0, .int 0, .int 0, .int 0, .int 0, .null, .null, .int 0, .null, .null, .null, .null, .null, .int 0])), (q1, .inl (cI, (408, .inl (fun _ => 0)))), (q2, .inl (cI, (4, .inl g4))), (q3, .inl (cI, (68, .inl (fun _ => 0))))] : va_W) iX7 tyX7_ok nmX7 rfl rfl rfl (by decide) (List.mem_cons_of_mem _ (List.mem_append_right _ wgL_5_16.1)) rfl rfl (tyX7_ok 4 (by decide)) rfl rfl (Nat.le_of_ble_eq_true rfl) dX7_init_42 ?_
  refine k_aload_n C 45 0 dX7_init_45 rfl ?_
  refine k_sipush C 46 160 dX7_init_46 rfl ?_
  refine k_newi C 49 0 160 (List.mem_cons_of_mem _ (List.mem_append_right _ wgL_2_16.1)) rfl (by decide) (by decide +kernel) (by decide) ⟨Nat.le_of_ble_eq_true rfl, Nat.le_of_ble_eq_true rfl⟩ dX7_init_49 (fun q4 => ?_)
  refine k_norm ([(h0, .inr (7, [.ref q1, .ref q2, .int 0, .int 0, .ref q3, .int 0, .int 0, .int 0, .int 0, .int 0, .null, .int 0, .int 0, .int 0, .int 0, .int 0, .int 0, .int 0, .int 0, .null, .null, .int 0, .int 0, .int 0, .int 0, .int 0, .int 0, .null, .null, .int 0, .null, .null, .null, .null, .null, .int 0])), (q1, .inl (cI, (408, .inl (fun _ => 0)))), (q2, .inl (cI, (4, .inl g4))), (q3, .inl (cI, (68, .inl (fun _ => 0)))), (q4, .inl (cI, (160, .inl (fun _ => 0))))] : va_W) rfl ?_
  refine k_putF (T := TX7) C hin 51 0 10 tyX7 (.array .int) ([(h0, .inr (7, [.ref q1, .ref q2, .int 0, .int 0, .ref q3, .int 0, .int 0, .int 0, .int 0, .int 0, .ref q4, .int 0, .int 0, .int 0, .int 0, .int 0, .int 0, .int 0, .int 0, .null, .null, .int 0, .int 0, .int 0, .int 0, .int 0, .int 0, .null, .null, .int 0, .null, .null, .null, .null, .null, .int 0])), (q1, .inl (cI, (408, .inl (fun _ => 0)))), (q2, .inl (cI, (4, .inl g4))), (q3, .inl (cI, (68, .inl (fun _ => 0)))), (q4, .inl (cI, (160, .inl (fun _ => 0))))] : va_W) iX7 tyX7_ok nmX7 rfl rfl rfl (by decide) (List.mem_cons_of_mem _ (List.mem_append_right _ wgL_5_17.1)) rfl rfl (tyX7_ok 10 (by decide)) rfl rfl (Nat.le_of_ble_eq_true rfl) dX7_init_51 ?_
  refine k_aload_n C 54 0 dX7_init_54 rfl ?_
  refine k_bipush C 55 12 dX7_init_55 rfl ?_
  refine k_newi C 57 0 12 (List.mem_cons_of_mem _ (List.mem_append_right _ wgL_2_16.1)) rfl (by decide) (by decide +kernel) (by decide) ⟨Nat.le_of_ble_eq_true rfl, Nat.le_of_ble_eq_true rfl⟩ dX7_init_57 (fun q5 => ?_)
  refine k_norm ([(h0, .inr (7, [.ref q1, .ref q2, .int 0, .int 0, .ref q3, .int 0, .int 0, .int 0, .int 0, .int 0, .ref q4, .int 0, .int 0, .int 0, .int 0, .int 0, .int 0, .int 0, .int 0, .null, .null, .int 0, .int 0, .int 0, .int 0, .int 0, .int 0, .null, .null, .int 0, .null, .null, .null, .null, .null, .int 0])), (q1, .inl (cI, (408, .inl (fun _ => 0)))), (q2, .inl (cI, (4, .inl g4))), (q3, .inl (cI, (68, .inl (fun _ => 0)))), (q4, .inl (cI, (160, .inl (fun _ => 0)))), (q5, .inl (cI, (12, .inl (fun _ => 0))))] : va_W) rfl ?_
  refine k_dup C 59 dX7_init_59 rfl ?_
  refine k_iconst C 60 0 dX7_init_60 rfl ?_
  refine k_iconst C 61 0 dX7_init_61 rfl ?_
  refine k_iast C 62 5 0 ([(h0, .inr (7, [.ref q1, .ref q2, .int 0, .int 0, .ref q3, .int 0, .int 0, .int 0, .int 0, .int 0, .ref q4, .int 0, .int 0, .int 0, .int 0, .int 0, .int 0, .int 0, .int 0, .null, .null, .int 0, .int 0, .int 0, .int 0, .int 0, .int 0, .null, .null, .int 0, .null, .null, .null, .null, .null, .int 0])), (q1, .inl (cI, (408, .inl (fun _ => 0)))), (q2, .inl (cI, (4, .inl g4))), (q3, .inl (cI, (68, .inl (fun _ => 0)))), (q4, .inl (cI, (160, .inl (fun _ => 0)))), (q5, .inl (cI, (12, .inl (upd (fun _ => 0) (Int32.toNatClampNeg 0) 0))))] : va_W) rfl rfl (by decide +kernel) rfl dX7_init_62 ?_
  generalize hg5 : upd (fun _ => 0) (Int32.toNatClampNeg 0) 0 = g5
  refine k_dup C 63 dX7_init_63 rfl ?_
  refine k_iconst C 64 1 dX7_init_64 rfl ?_
  refine k_bipush C 65 6 dX7_init_65 rfl ?_
  refine k_iast C 67 5 0 ([(h0, .inr (7, [.ref q1, .ref q2, .int 0, .int 0, .ref q3, .int 0, .int 0, .int 0, .int 0, .int 0, .ref q4, .int 0, .int 0, .int 0, .int 0, .int 0, .int 0, .int 0, .int 0, .null, .null, .int 0, .int 0, .int 0, .int 0, .int 0, .int 0, .null, .null, .int 0, .null, .null, .null, .null, .null, .int 0])), (q1, .inl (cI, (408, .inl (fun _ => 0)))), (q2, .inl (cI, (4, .inl g4))), (q3, .inl (cI, (68, .inl (fun _ => 0)))), (q4, .inl (cI, (160, .inl (fun _ => 0)))), (q5, .inl (cI, (12, .inl (upd g5 (Int32.toNatClampNeg 1) 6))))] : va_W) rfl rfl (by decide +kernel) rfl dX7_init_67 ?_
  generalize hg6 : upd g5 (Int32.toNatClampNeg 1) 6 = g6
  refine k_dup C 68 dX7_init_68 rfl ?_
  refine k_iconst C 69 2 dX7_init_69 rfl ?_
  refine k_bipush C 70 9 dX7_init_70 rfl ?_
  refine k_iast C 72 5 0 ([(h0, .inr (7, [.ref q1, .ref q2, .int 0, .int 0, .ref q3, .int 0, .int 0, .int 0, .int 0, .int 0, .ref q4, .int 0, .int 0, .int 0, .int 0, .int 0, .int 0, .int 0, .int 0, .null, .null, .int 0, .int 0, .int 0, .int 0, .int 0, .int 0, .null, .null, .int 0, .null, .null, .null, .null, .null, .int 0])), (q1, .inl (cI, (408, .inl (fun _ => 0)))), (q2, .inl (cI, (4, .inl g4))), (q3, .inl (cI, (68, .inl (fun _ => 0)))), (q4, .inl (cI, (160, .inl (fun _ => 0)))), (q5, .inl (cI, (12, .inl (upd g6 (Int32.toNatClampNeg 2) 9))))] : va_W) rfl rfl (by decide +kernel) rfl dX7_init_72 ?_
  generalize hg7 : upd g6 (Int32.toNatClampNeg 2) 9 = g7
  refine k_dup C 73 dX7_init_73 rfl ?_
  refine k_iconst C 74 3 dX7_init_74 rfl ?_
  refine k_bipush C 75 13 dX7_init_75 rfl ?_
  refine k_iast C 77 5 0 ([(h0, .inr (7, [.ref q1, .ref q2, .int 0, .int 0, .ref q3, .int 0, .int 0, .int 0, .int 0, .int 0, .ref q4, .int 0, .int 0, .int 0, .int 0, .int 0, .int 0, .int 0, .int 0, .null, .null, .int 0, .int 0, .int 0, .int 0, .int 0, .int 0, .null, .null, .int 0, .null, .null, .null, .null, .null, .int 0])), (q1, .inl (cI, (408, .inl (fun _ => 0)))), (q2, .inl (cI, (4, .inl g4))), (q3, .inl (cI, (68, .inl (fun _ => 0)))), (q4, .inl (cI, (160, .inl (fun _ => 0)))), (q5, .inl (cI, (12, .inl (upd g7 (Int32.toNatClampNeg 3) 13))))] : va_W) rfl rfl (by decide +kernel) rfl dX7_init_77 ?_
  generalize hg8 : upd g7 (Int32.toNatClampNeg 3) 13 = g8
  refine k_dup C 78 dX7_init_78 rfl ?_
  refine k_iconst C 79 4 dX7_init_79 rfl ?_
  refine k_bipush C 80 18 dX7_init_80 rfl ?_
  refine k_iast C 82 5 0 ([(h0, .inr (7, [.ref q1, .ref q2, .int 0, .int 0, .ref q3, .int 0, .int 0, .int 0, .int 0, .int 0, .ref q4, .int 0, .int 0, .int 0, .int 0, .int 0, .int 0, .int 0, .int 0, .null, .null, .int 0, .int 0, .int 0, .int 0, .int 0, .int 0, .null, .null, .int 0, .null, .null, .null, .null, .null, .int 0])), (q1, .inl (cI, (408, .inl (fun _ => 0)))), (q2, .inl (cI, (4, .inl g4))), (q3, .inl (cI, (68, .inl (fun _ => 0)))), (q4, .inl (cI, (160, .inl (fun _ => 0)))), (q5, .inl (cI, (12, .inl (upd g8 (Int32.toNatClampNeg 4) 18))))] : va_W) rfl rfl (by decide +kernel) rfl dX7_init_82 ?_
  generalize hg9 : upd g8 (Int32.toNatClampNeg 4) 18 = g9
  refine k_dup C 83 dX7_init_83 rfl ?_
  refine k_iconst C 84 5 dX7_init_84 rfl ?_
  refine k_bipush C 85 23 dX7_init_85 rfl ?_
  refine k_iast C 87 5 0 ([(h0, .inr (7, [.ref q1, .ref q2, .int 0, .int 0, .ref q3, .int 0, .int 0, .int 0, .int 0, .int 0, .ref q4, .int 0, .int 0, .int 0, .int 0, .int 0, .int 0, .int 0, .int 0, .null, .null, .int 0, .int 0, .int 0, .int 0, .int 0, .int 0, .null, .null, .int 0, .null, .null, .null, .null, .null, .int 0])), (q1, .inl (cI, (408, .inl (fun _ => 0)))), (q2, .inl (cI, (4, .inl g4))), (q3, .inl (cI, (68, .inl (fun _ => 0)))), (q4, .inl (cI, (160, .inl (fun _ => 0)))), (q5, .inl (cI, (12, .inl (upd g9 (Int32.toNatClampNeg 5) 23))))] : va_W) rfl rfl (by decide +kernel) rfl dX7_init_87 ?_
  generalize hg10 : upd g9 (Int32.toNatClampNeg 5) 23 = g10
  refine k_dup C 88 dX7_init_88 rfl ?_
  refine k_bipush C 89 6 dX7_init_89 rfl ?_
  refine k_bipush C 91 27 dX7_init_91 rfl ?_
  refine k_iast C 93 5 0 ([(h0, .inr (7, [.ref q1, .ref q2, .int 0, .int 0, .ref q3, .int 0, .int 0, .int 0, .int 0, .int 0, .ref q4, .int 0, .int 0, .int 0, .int 0, .int 0, .int 0, .int 0, .int 0, .null, .null, .int 0, .int 0, .int 0, .int 0, .int 0, .int 0, .null, .null, .int 0, .null, .null, .null, .null, .null, .int 0])), (q1, .inl (cI, (408, .inl (fun _ => 0)))), (q2, .inl (cI, (4, .inl g4))), (q3, .inl (cI, (68, .inl (fun _ => 0)))), (q4, .inl (cI, (160, .inl (fun _ => 0)))), (q5, .inl (cI, (12, .inl (upd g10 (Int32.toNatClampNeg 6) 27))))] : va_W) rfl rfl (by decide +kernel) rfl dX7_init_93 ?_
  generalize hg11 : upd g10 (Int32.toNatClampNeg 6) 27 = g11
  refine k_dup C 94 dX7_init_94 rfl ?_
  refine k_bipush C 95 7 dX7_init_95 rfl ?_
  refine k_bipush C 97 32 dX7_init_97 rfl ?_
  refine k_iast C 99 5 0 ([(h0, .inr (7, [.ref q1, .ref q2, .int 0, .int 0, .ref q3, .int 0, .int 0, .int 0, .int 0, .int 0, .ref q4, .int 0, .int 0, .int 0, .int 0, .int 0, .int 0, .int 0, .int 0, .null, .null, .int 0, .int 0, .int 0, .int 0, .int 0, .int 0, .null, .null, .int 0, .null, .null, .null, .null, .null, .int 0])), (q1, .inl (cI, (408, .inl (fun _ => 0)))), (q2, .inl (cI, (4, .inl g4))), (q3, .inl (cI, (68, .inl (fun _ => 0)))), (q4, .inl (cI, (160, .inl (fun _ => 0)))), (q5, .inl (cI, (12, .inl (upd g11 (Int32.toNatClampNeg 7) 32))))] : va_W) rfl rfl (by decide +kernel) rfl dX7_init_99 ?_
  generalize hg12 : upd g11 (Int32.toNatClampNeg 7) 32 = g12
  refine k_dup C 100 dX7_init_100 rfl ?_
  refine k_bipush C 101 8 dX7_init_101 rfl ?_
  refine k_bipush C 103 36 dX7_init_103 rfl ?_
  refine k_iast C 105 5 0 ([(h0, .inr (7, [.ref q1, .ref q2, .int 0, .int 0, .ref q3, .int 0, .int 0, .int 0, .int 0, .int 0, .ref q4, .int 0, .int 0, .int 0, .int 0, .int 0, .int 0, .int 0, .int 0, .null, .null, .int 0, .int 0, .int 0, .int 0, .int 0, .int 0, .null, .null, .int 0, .null, .null, .null, .null, .null, .int 0])), (q1, .inl (cI, (408, .inl (fun _ => 0)))), (q2, .inl (cI, (4, .inl g4))), (q3, .inl (cI, (68, .inl (fun _ => 0)))), (q4, .inl (cI, (160, .inl (fun _ => 0)))), (q5, .inl (cI, (12, .inl (upd g12 (Int32.toNatClampNeg 8) 36))))] : va_W) rfl rfl (by decide +kernel) rfl dX7_init_105 ?_
  generalize hg13 : upd g12 (Int32.toNatClampNeg 8) 36 = g13
  refine k_dup C 106 dX7_init_106 rfl ?_
  refine k_bipush C 107 9 dX7_init_107 rfl ?_
  refine k_bipush C 109 40 dX7_init_109 rfl ?_
  refine k_iast C 111 5 0 ([(h0, .inr (7, [.ref q1, .ref q2, .int 0, .int 0, .ref q3, .int 0, .int 0, .int 0, .int 0, .int 0, .ref q4, .int 0, .int 0, .int 0, .int 0, .int 0, .int 0, .int 0, .int 0, .null, .null, .int 0, .int 0, .int 0, .int 0, .int 0, .int 0, .null, .null, .int 0, .null, .null, .null, .null, .null, .int 0])), (q1, .inl (cI, (408, .inl (fun _ => 0)))), (q2, .inl (cI, (4, .inl g4))), (q3, .inl (cI, (68, .inl (fun _ => 0)))), (q4, .inl (cI, (160, .inl (fun _ => 0)))), (q5, .inl (cI, (12, .inl (upd g13 (Int32.toNatClampNeg 9) 40))))] : va_W) rfl rfl (by decide +kernel) rfl dX7_init_111 ?_
  generalize hg14 : upd g13 (Int32.toNatClampNeg 9) 40 = g14
  refine k_dup C 112 dX7_init_112 rfl ?_
  refine k_bipush C 113 10 dX7_init_113 rfl ?_
  refine k_bipush C 115 47 dX7_init_115 rfl ?_
  refine k_iast C 117 5 0 ([(h0, .inr (7, [.ref q1, .ref q2, .int 0, .int 0, .ref q3, .int 0, .int 0, .int 0, .int 0, .int 0, .ref q4, .int 0, .int 0, .int 0, .int 0, .int 0, .int 0, .int 0, .int 0, .null, .null, .int 0, .int 0, .int 0, .int 0, .int 0, .int 0, .null, .null, .int 0, .null, .null, .null, .null, .null, .int 0])), (q1, .inl (cI, (408, .inl (fun _ => 0)))), (q2, .inl (cI, (4, .inl g4))), (q3, .inl (cI, (68, .inl (fun _ => 0)))), (q4, .inl (cI, (160, .inl (fun _ => 0)))), (q5, .inl (cI, (12, .inl (upd g14 (Int32.toNatClampNeg 10) 47))))] : va_W) rfl rfl (by decide +kernel) rfl dX7_init_117 ?_
  generalize hg15 : upd g14 (Int32.toNatClampNeg 10) 47 = g15
  refine k_dup C 118 dX7_init_118 rfl ?_
  refine k_bipush C 119 11 dX7_init_119 rfl ?_
  refine k_bipush C 121 53 dX7_init_121 rfl ?_
  refine k_iast C 123 5 0 ([(h0, .inr (7, [.ref q1, .ref q2, .int 0, .int 0, .ref q3, .int 0, .int 0, .int 0, .int 0, .int 0, .ref q4, .int 0, .int 0, .int 0, .int 0, .int 0, .int 0, .int 0, .int 0, .null, .null, .int 0, .int 0, .int 0, .int 0, .int 0, .int 0, .null, .null, .int 0, .null, .null, .null, .null, .null, .int 0])), (q1, .inl (cI, (408, .inl (fun _ => 0)))), (q2, .inl (cI, (4, .inl g4))), (q3, .inl (cI, (68, .inl (fun _ => 0)))), (q4, .inl (cI, (160, .inl (fun _ => 0)))), (q5, .inl (cI, (12, .inl (upd g15 (Int32.toNatClampNeg 11) 53))))] : va_W) rfl rfl (by decide +kernel) rfl dX7_init_123 ?_
  generalize hg16 : upd g15 (Int32.toNatClampNeg 11) 53 = g16
  refine k_putF (T := TX7) C hin 124 0 19 tyX7 (.array .int) ([(h0, .inr (7, [.ref q1, .ref q2, .int 0, .int 0, .ref q3, .int 0, .int 0, .int 0, .int 0, .int 0, .ref q4, .int 0, .int 0, .int 0, .int 0, .int 0, .int 0, .int 0, .int 0, .ref q5, .null, .int 0, .int 0, .int 0, .int 0, .int 0, .int 0, .null, .null, .int 0, .null, .null, .null, .null, .null, .int 0])), (q1, .inl (cI, (408, .inl (fun _ => 0)))), (q2, .inl (cI, (4, .inl g4))), (q3, .inl (cI, (68, .inl (fun _ => 0)))), (q4, .inl (cI, (160, .inl (fun _ => 0)))), (q5, .inl (cI, (12, .inl g16)))] : va_W) iX7 tyX7_ok nmX7 rfl rfl rfl (by decide) (List.mem_cons_of_mem _ (List.mem_append_right _ wgL_5_18.1)) rfl rfl (tyX7_ok 19 (by decide)) rfl rfl (Nat.le_of_ble_eq_true rfl) dX7_init_124 ?_
  refine k_aload_n C 127 0 dX7_init_127 rfl ?_
  refine k_bipush C 128 53 dX7_init_128 rfl ?_
  refine k_newi C 130 0 53 (List.mem_cons_of_mem _ (List.mem_append_right _ wgL_2_16.1)) rfl (by decide) (by decide +kernel) (by decide) ⟨Nat.le_of_ble_eq_true rfl, Nat.le_of_ble_eq_true rfl⟩ dX7_init_130 (fun q6 => ?_)
  refine k_norm ([(h0, .inr (7, [.ref q1, .ref q2, .int 0, .int 0, .ref q3, .int 0, .int 0, .int 0, .int 0, .int 0, .ref q4, .int 0, .int 0, .int 0, .int 0, .int 0, .int 0, .int 0, .int 0, .ref q5, .null, .int 0, .int 0, .int 0, .int 0, .int 0, .int 0, .null, .null, .int 0, .null, .null, .null, .null, .null, .int 0])), (q1, .inl (cI, (408, .inl (fun _ => 0)))), (q2, .inl (cI, (4, .inl g4))), (q3, .inl (cI, (68, .inl (fun _ => 0)))), (q4, .inl (cI, (160, .inl (fun _ => 0)))), (q5, .inl (cI, (12, .inl g16))), (q6, .inl (cI, (53, .inl (fun _ => 0))))] : va_W) rfl ?_
  refine k_dup C 132 dX7_init_132 rfl ?_
  refine k_iconst C 133 0 dX7_init_133 rfl ?_
  refine k_bipush C 134 116 dX7_init_134 rfl ?_
  refine k_iast C 136 6 0 ([(h0, .inr (7, [.ref q1, .ref q2, .int 0, .int 0, .ref q3, .int 0, .int 0, .int 0, .int 0, .int 0, .ref q4, .int 0, .int 0, .int 0, .int 0, .int 0, .int 0, .int 0, .int 0, .ref q5, .null, .int 0, .int 0, .int 0, .int 0, .int 0, .int 0, .null, .null, .int 0, .null, .null, .null, .null, .null, .int 0])), (q1, .inl (cI, (408, .inl (fun _ => 0)))), (q2, .inl (cI, (4, .inl g4))), (q3, .inl (cI, (68, .inl (fun _ => 0)))), (q4, .inl (cI, (160, .inl (fun _ => 0)))), (q5, .inl (cI, (12, .inl g16))), (q6, .inl (cI, (53, .inl (upd (fun _ => 0) (Int32.toNatClampNeg 0) 116))))] : va_W) rfl rfl (by decide +kernel) rfl dX7_init_136 ?_
  generalize hg17 : upd (fun _ => 0) (Int32.toNatClampNeg 0) 116 = g17
  refine k_dup C 137 dX7_init_137 rfl ?_
  refine k_iconst C 138 1 dX7_init_138 rfl ?_
  refine k_bipush C 139 97 dX7_init_139 rfl ?_
  refine k_iast C 141 6 0 ([(h0, .inr (7, [.ref q1, .ref q2, .int 0, .int 0, .ref q3, .int 0, .int 0, .int 0, .int 0, .int 0, .ref q4, .int 0, .int 0, .int 0, .int 0, .int 0, .int 0, .int 0, .int 0, .ref q5, .null, .int 0, .int 0, .int 0, .int 0, .int 0, .int 0, .null, .null, .int 0, .null, .null, .null, .null, .null, .int 0])), (q1, .inl (cI, (408, .inl (fun _ => 0)))), (q2, .inl (cI, (4, .inl g4))), (q3, .inl (cI, (68, .inl (fun _ => 0)))), (q4, .inl (cI, (160, .inl (fun _ => 0)))), (q5, .inl (cI, (12, .inl g16))), (q6, .inl (cI, (53, .inl (upd g17 (Int32.toNatClampNeg 1) 97))))] : va_W) rfl rfl (by decide +kernel) rfl dX7_init_141 ?_
  generalize hg18 : upd g17 (Int32.toNatClampNeg 1) 97 = g18
  refine k_dup C 142 dX7_init_142 rfl ?_
  refine k_iconst C 143 2 dX7_init_143 rfl ?_
  refine k_bipush C 144 108 dX7_init_144 rfl ?_
  refine k_iast C 146 6 0 ([(h0, .inr (7, [.ref q1, .ref q2, .int 0, .int 0, .ref q3, .int 0, .int 0, .int 0, .int 0, .int 0, .ref q4, .int 0, .int 0, .int 0, .int 0, .int 0, .int 0, .int 0, .int 0, .ref q5, .null, .int 0, .int 0, .int 0, .int 0, .int 0, .int 0, .null, .null, .int 0, .null, .null, .null, .null, .null, .int 0])), (q1, .inl (cI, (408, .inl (fun _ => 0)))), (q2, .inl (cI, (4, .inl g4))), (q3, .inl (cI, (68, .inl (fun _ => 0)))), (q4, .inl (cI, (160, .inl (fun _ => 0)))), (q5, .inl (cI, (12, .inl g16))), (q6, .inl (cI, (53, .inl (upd g18 (Int32.toNatClampNeg 2) 108))))] : va_W) rfl rfl (by decide +kernel) rfl dX7_init_146 ?_
  generalize hg19 : upd g18 (Int32.toNatClampNeg 2) 108 = g19
  refine k_dup C 147 dX7_init_147 rfl ?_
  refine k_iconst C 148 3 dX7_init_148 rfl ?_
  refine k_bipush C 149 108 dX7_init_149 rfl ?_
  refine k_iast C 151 6 0 ([(h0, .inr (7, [.ref q1, .ref q2, .int 0, .int 0, .ref q3, .int 0, .int 0, .int 0, .int 0, .int 0, .ref q4, .int 0, .int 0, .int 0, .int 0, .int 0, .int 0, .int 0, .int 0, .ref q5, .null, .int 0, .int 0, .int 0, .int 0, .int 0, .int 0, .null, .null, .int 0, .null, .null, .null, .null, .null, .int 0])), (q1, .inl (cI, (408, .inl (fun _ => 0)))), (q2, .inl (cI, (4, .inl g4))), (q3, .inl (cI, (68, .inl (fun _ => 0)))), (q4, .inl (cI, (160, .inl (fun _ => 0)))), (q5, .inl (cI, (12, .inl g16))), (q6, .inl (cI, (53, .inl (upd g19 (Int32.toNatClampNeg 3) 108))))] : va_W) rfl rfl (by decide +kernel) rfl dX7_init_151 ?_
  generalize hg20 : upd g19 (Int32.toNatClampNeg 3) 108 = g20
  refine k_dup C 152 dX7_init_152 rfl ?_
  refine k_iconst C 153 4 dX7_init_153 rfl ?_
  refine k_bipush C 154 111 dX7_init_154 rfl ?_
  refine k_iast C 156 6 0 ([(h0, .inr (7, [.ref q1, .ref q2, .int 0, .int 0, .ref q3, .int 0, .int 0, .int 0, .int 0, .int 0, .ref q4, .int 0, .int 0, .int 0, .int 0, .int 0, .int 0, .int 0, .int 0, .ref q5, .null, .int 0, .int 0, .int 0, .int 0, .int 0, .int 0, .null, .null, .int 0, .null, .null, .null, .null, .null, .int 0])), (q1, .inl (cI, (408, .inl (fun _ => 0)))), (q2, .inl (cI, (4, .inl g4))), (q3, .inl (cI, (68, .inl (fun _ => 0)))), (q4, .inl (cI, (160, .inl (fun _ => 0)))), (q5, .inl (cI, (12, .inl g16))), (q6, .inl (cI, (53, .inl (upd g20 (Int32.toNatClampNeg 4) 111))))] : va_W) rfl rfl (by decide +kernel) rfl dX7_init_156 ?_
  generalize hg21 : upd g20 (Int32.toNatClampNeg 4) 111 = g21
  refine k_dup C 157 dX7_init_157 rfl ?_
  refine k_iconst C 158 5 dX7_init_158 rfl ?_
  refine k_bipush C 159 119 dX7_init_159 rfl ?_
  refine k_iast C 161 6 0 ([(h0, .inr (7, [.ref q1, .ref q2, .int 0, .int 0, .ref q3, .int 0, .int 0, .int 0, .int 0, .int 0, .ref q4, .int 0, .int 0, .int 0, .int 0, .int 0, .int 0, .int 0, .int 0, .ref q5, .null, .int 0, .int 0, .int 0, .int 0, .int 0, .int 0, .null, .null, .int 0, .null, .null, .null, .null, .null, .int 0])), (q1, .inl (cI, (408, .inl (fun _ => 0)))), (q2, .inl (cI, (4, .inl g4))), (q3, .inl (cI, (68, .inl (fun _ => 0)))), (q4, .inl (cI, (160, .inl (fun _ => 0)))), (q5, .inl (cI, (12, .inl g16))), (q6, .inl (cI, (53, .inl (upd g21 (Int32.toNatClampNeg 5) 119))))] : va_W) rfl rfl (by decide +kernel) rfl dX7_init_161 ?_
  generalize hg22 : upd g21 (Int32.toNatClampNeg 5) 119 = g22
  refine k_dup C 162 dX7_init_162 rfl ?_
  refine k_bipush C 163 6 dX7_init_163 rfl ?_
  refine k_bipush C 165 119 dX7_init_165 rfl ?_
  refine k_iast C 167 6 0 ([(h0, .inr (7, [.ref q1, .ref q2, .int 0, .int 0, .ref q3, .int 0, .int 0, .int 0, .int 0, .int 0, .ref q4, .int 0, .int 0, .int 0, .int 0, .int 0, .int 0, .int 0, .int 0, .ref q5, .null, .int 0, .int 0, .int 0, .int 0, .int 0, .int 0, .null, .null, .int 0, .null, .null, .null, .null, .null, .int 0])), (q1, .inl (cI, (408, .inl (fun _ => 0)))), (q2, .inl (cI, (4, .inl g4))), (q3, .inl (cI, (68, .inl (fun _ => 0)))), (q4, .inl (cI, (160, .inl (fun _ => 0)))), (q5, .inl (cI, (12, .inl g16))), (q6, .inl (cI, (53, .inl (upd g22 (Int32.toNatClampNeg 6) 119))))] : va_W) rfl rfl (by decide +kernel) rfl dX7_init_167 ?_
  generalize hg23 : upd g22 (Int32.toNatClampNeg 6) 119 = g23
  refine k_dup C 168 dX7_init_168 rfl ?_
  refine k_bipush C 169 7 dX7_init_169 rfl ?_
  refine k_bipush C 171 97 dX7_init_171 rfl ?_
  refine k_iast C 173 6 0 ([(h0, .inr (7, [.ref q1, .ref q2, .int 0, .int 0, .ref q3, .int 0, .int 0, .int 0, .int 0, .int 0, .ref q4, .int 0, .int 0, .int 0, .int 0, .int 0, .int 0, .int 0, .int 0, .ref q5, .null, .int 0, .int 0, .int 0, .int 0, .int 0, .int 0, .null, .null, .int 0, .null, .null, .null, .null, .null, .int 0])), (q1, .inl (cI, (408, .inl (fun _ => 0)))), (q2, .inl (cI, (4, .inl g4))), (q3, .inl (cI, (68, .inl (fun _ => 0)))), (q4, .inl (cI, (160, .inl (fun _ => 0)))), (q5, .inl (cI, (12, .inl g16))), (q6, .inl (cI, (53, .inl (upd g23 (Int32.toNatClampNeg 7) 97))))] : va_W) rfl rfl (by decide +kernel) rfl dX7_init_173 ?_
  generalize hg24 : upd g23 (Int32.toNatClampNeg 7) 97 = g24
  refine k_dup C 174 dX7_init_174 rfl ?_
  refine k_bipush C 175 8 dX7_init_175 rfl ?_
  refine k_bipush C 177 120 dX7_init_177 rfl ?_
  refine k_iast C 179 6 0 ([(h0, .inr (7, [.ref q1, .ref q2, .int 0, .int 0, .ref q3, .int 0, .int 0, .int 0, .int 0, .int 0, .ref q4, .int 0, .int 0, .int 0, .int 0, .int 0, .int 0, .int 0, .int 0, .ref q5, .null, .int 0, .int 0, .int 0, .int 0, .int 0, .int 0, .null, .null, .int 0, .null, .null, .null, .null, .null, .int 0])), (q1, .inl (cI, (408, .inl (fun _ => 0)))), (q2, .inl (cI, (4, .inl g4))), (q3, .inl (cI, (68, .inl (fun _ => 0)))), (q4, .inl (cI, (160, .inl (fun _ => 0)))), (q5, .inl (cI, (12, .inl g16))), (q6, .inl (cI, (53, .inl (upd g24 (Int32.toNatClampNeg 8) 120))))] : va_W) rfl rfl (by decide +kernel) rfl dX7_init_179 ?_
  generalize hg25 : upd g24 (Int32.toNatClampNeg 8) 120 = g25
  refine k_dup C 180 dX7_init_180 rfl ?_
  refine k_bipush C 181 9 dX7_init_181 rfl ?_
  refine k_bipush C 183 98 dX7_init_183 rfl ?_
  refine k_iast C 185 6 0 ([(h0, .inr (7, [.ref q1, .ref q2, .int 0, .int 0, .ref q3, .int 0, .int 0, .int 0, .int 0, .int 0, .ref q4, .int 0, .int 0, .int 0, .int 0, .int 0, .int 0, .int 0, .int 0, .ref q5, .null, .int 0, .int 0, .int 0, .int 0, .int 0, .int 0, .null, .null, .int 0, .null, .null, .null, .null, .null, .int 0])), (q1, .inl (cI, (408, .inl (fun _ => 0)))), (q2, .inl (cI, (4, .inl g4))), (q3, .inl (cI, (68, .inl (fun _ => 0)))), (q4, .inl (cI, (160, .inl (fun _ => 0)))), (q5, .inl (cI, (12, .inl g16))), (q6, .inl (cI, (53, .inl (upd g25 (Int32.toNatClampNeg 9) 98))))] : va_W) rfl rfl (by decide +kernel) rfl dX7_init_185 ?_
  generalize hg26 : upd g25 (Int32.toNatClampNeg 9) 98 = g26
  refine k_dup C 186 dX7_init_186 rfl ?_
  refine k_bipush C 187 10 dX7_init_187 rfl ?_
  refine k_bipush C 189 101 dX7_init_189 rfl ?_
  refine k_iast C 191 6 0 ([(h0, .inr (7, [.ref q1, .ref q2, .int 0, .int 0, .ref q3, .int 0, .int 0, .int 0, .int 0, .int 0, .ref q4, .int 0, .int 0, .int 0, .int 0, .int 0, .int 0, .int 0, .int 0, .ref q5, .null, .int 0, .int 0, .int 0, .int 0, .int 0, .int 0, .null, .null, .int 0, .null, .null, .null, .null, .null, .int 0])), (q1, .inl (cI, (408, .inl (fun _ => 0)))), (q2, .inl (cI, (4, .inl g4))), (q3, .inl (cI, (68, .inl (fun _ => 0)))), (q4, .inl (cI, (160, .inl (fun _ => 0)))), (q5, .inl (cI, (12, .inl g16))), (q6, .inl (cI, (53, .inl (upd g26 (Int32.toNatClampNeg 10) 101))))] : va_W) rfl rfl (by decide +kernel) rfl dX7_init_191 ?_
  generalize hg27 : upd g26 (Int32.toNatClampNeg 10) 101 = g27
  refine k_dup C 192 dX7_init_192 rfl ?_
  refine k_bipush C 193 11 dX7_init_193 rfl ?_
  refine k_bipush C 195 101 dX7_init_195 rfl ?_
  refine k_iast C 197 6 0 ([(h0, .inr (7, [.ref q1, .ref q2, .int 0, .int 0, .ref q3, .int 0, .int 0, .int 0, .int 0, .int 0, .ref q4, .int 0, .int 0, .int 0, .int 0, .int 0, .int 0, .int 0, .int 0, .ref q5, .null, .int 0, .int 0, .int 0, .int 0, .int 0, .int 0, .null, .null, .int 0, .null, .null, .null, .null, .null, .int 0])), (q1, .inl (cI, (408, .inl (fun _ => 0)))), (q2, .inl (cI, (4, .inl g4))), (q3, .inl (cI, (68, .inl (fun _ => 0)))), (q4, .inl (cI, (160, .inl (fun _ => 0)))), (q5, .inl (cI, (12, .inl g16))), (q6, .inl (cI, (53, .inl (upd g27 (Int32.toNatClampNeg 11) 101))))] : va_W) rfl rfl (by decide +kernel) rfl dX7_init_197 ?_
  generalize hg28 : upd g27 (Int32.toNatClampNeg 11) 101 = g28
  refine k_dup C 198 dX7_init_198 rfl ?_
  refine k_bipush C 199 12 dX7_init_199 rfl ?_
  refine k_bipush C 201 115 dX7_init_201 rfl ?_
  refine k_iast C 203 6 0 ([(h0, .inr (7, [.ref q1, .ref q2, .int 0, .int 0, .ref q3, .int 0, .int 0, .int 0, .int 0, .int 0, .ref q4, .int 0, .int 0, .int 0, .int 0, .int 0, .int 0, .int 0, .int 0, .ref q5, .null, .int 0, .int 0, .int 0, .int 0, .int 0, .int 0, .null, .null, .int 0, .null, .null, .null, .null, .null, .int 0])), (q1, .inl (cI, (408, .inl (fun _ => 0)))), (q2, .inl (cI, (4, .inl g4))), (q3, .inl (cI, (68, .inl (fun _ => 0)))), (q4, .inl (cI, (160, .inl (fun _ => 0)))), (q5, .inl (cI, (12, .inl g16))), (q6, .inl (cI, (53, .inl (upd g28 (Int32.toNatClampNeg 12) 115))))] : va_W) rfl rfl (by decide +kernel) rfl dX7_init_203 ?_
  generalize hg29 : upd g28 (Int32.toNatClampNeg 12) 115 = g29
  refine k_dup C 204 dX7_init_204 rfl ?_
  refine k_bipush C 205 13 dX7_init_205 rfl ?_
  refine k_bipush C 207 116 dX7_init_207 rfl ?_
  refine k_iast C 209 6 0 ([(h0, .inr (7, [.ref q1, .ref q2, .int 0, .int 0, .ref q3, .int 0, .int 0, .int 0, .int 0, .int 0, .ref q4, .int 0, .int 0, .int 0, .int 0, .int 0, .int 0, .int 0, .int 0, .ref q5, .null, .int 0, .int 0, .int 0, .int 0, .int 0, .int 0, .null, .null, .int 0, .null, .null, .null, .null, .null, .int 0])), (q1, .inl (cI, (408, .inl (fun _ => 0)))), (q2, .inl (cI, (4, .inl g4))), (q3, .inl (cI, (68, .inl (fun _ => 0)))), (q4, .inl (cI, (160, .inl (fun _ => 0)))), (q5, .inl (cI, (12, .inl g16))), (q6, .inl (cI, (53, .inl (upd g29 (Int32.toNatClampNeg 13) 116))))] : va_W) rfl rfl (by decide +kernel) rfl dX7_init_209 ?_
  generalize hg30 : upd g29 (Int32.toNatClampNeg 13) 116 = g30
  refine k_dup C 210 dX7_init_210 rfl ?_
  refine k_bipush C 211 14 dX7_init_211 rfl ?_
  refine k_bipush C 213 104 dX7_init_213 rfl ?_
  refine k_iast C 215 6 0 ([(h0, .inr (7, [.ref q1, .ref q2, .int 0, .int 0, .ref q3, .int 0, .int 0, .int 0, .int 0, .int 0, .ref q4, .int 0, .int 0, .int 0, .int 0, .int 0, .int 0, .int 0, .int 0, .ref q5, .null, .int 0, .int 0, .int 0, .int 0, .int 0, .int 0, .null, .null, .int 0, .null, .null, .null, .null, .null, .int 0])), (q1, .inl (cI, (408, .inl (fun _ => 0)))), (q2, .inl (cI, (4, .inl g4))), (q3, .inl (cI, (68, .inl (fun _ => 0)))), (q4, .inl (cI, (160, .inl (fun _ => 0)))), (q5, .inl (cI, (12, .inl g16))), (q6, .inl (cI, (53, .inl (upd g30 (Int32.toNatClampNeg 14) 104))))] : va_W) rfl rfl (by decide +kernel) rfl dX7_init_215 ?_
  generalize hg31 : upd g30 (Int32.toNatClampNeg 14) 104 = g31
  refine k_dup C 216 dX7_init_216 rfl ?_
  refine k_bipush C 217 15 dX7_init_217 rfl ?_
  refine k_bipush C 219 105 dX7_init_219 rfl ?_
  refine k_iast C 221 6 0 ([(h0, .inr (7, [.ref q1, .ref q2, .int 0, .int 0, .ref q3, .int 0, .int 0, .int 0, .int 0, .int 0, .ref q4, .int 0, .int 0, .int 0, .int 0, .int 0, .int 0, .int 0, .int 0, .ref q5, .null, .int 0, .int 0, .int 0, .int 0, .int 0, .int 0, .null, .null, .int 0, .null, .null, .null, .null, .null, .int 0])), (q1, .inl (cI, (408, .inl (fun _ => 0)))), (q2, .inl (cI, (4, .inl g4))), (q3, .inl (cI, (68, .inl (fun _ => 0)))), (q4, .inl (cI, (160, .inl (fun _ => 0)))), (q5, .inl (cI, (12, .inl g16))), (q6, .inl (cI, (53, .inl (upd g31 (Int32.toNatClampNeg 15) 105))))] : va_W) rfl rfl (by decide +kernel) rfl dX7_init_221 ?_
  generalize hg32 : upd g31 (Int32.toNatClampNeg 15) 105 = g32
  refine k_dup C 222 dX7_init_222 rfl ?_
  refine k_bipush C 223 16 dX7_init_223 rfl ?_
  refine k_bipush C 225 101 dX7_init_225 rfl ?_
  refine k_iast C 227 6 0 ([(h0, .inr (7, [.ref q1, .ref q2, .int 0, .int 0, .ref q3, .int 0, .int 0, .int 0, .int 0, .int 0, .ref q4, .int 0, .int 0, .int 0, .int 0, .int 0, .int 0, .int 0, .int 0, .ref q5, .null, .int 0, .int 0, .int 0, .int 0, .int 0, .int 0, .null, .null, .int 0, .null, .null, .null, .null, .null, .int 0])), (q1, .inl (cI, (408, .inl (fun _ => 0)))), (q2, .inl (cI, (4, .inl g4))), (q3, .inl (cI, (68, .inl (fun _ => 0)))), (q4, .inl (cI, (160, .inl (fun _ => 0)))), (q5, .inl (cI, (12, .inl g16))), (q6, .inl (cI, (53, .inl (upd g32 (Int32.toNatClampNeg 16) 101))))] : va_W) rfl rfl (by decide +kernel) rfl dX7_init_227 ?_
  generalize hg33 : upd g32 (Int32.toNatClampNeg 16) 101 = g33
  refine k_dup C 228 dX7_init_228 rfl ?_
  refine k_bipush C 229 17 dX7_init_229 rfl ?_
  refine k_bipush C 231 102 dX7_init_231 rfl ?_
  refine k_iast C 233 6 0 ([(h0, .inr (7, [.ref q1, .ref q2, .int 0, .int 0, .ref q3, .int 0, .int 0, .int 0, .int 0, .int 0, .ref q4, .int 0, .int 0, .int 0, .int 0, .int 0, .int 0, .int 0, .int 0, .ref q5, .null, .int 0, .int 0, .int 0, .int 0, .int 0, .int 0, .null, .null, .int 0, .null, .null, .null, .null, .null, .int 0])), (q1, .inl (cI, (408, .inl (fun _ => 0)))), (q2, .inl (cI, (4, .inl g4))), (q3, .inl (cI, (68, .inl (fun _ => 0)))), (q4, .inl (cI, (160, .inl (fun _ => 0)))), (q5, .inl (cI, (12, .inl g16))), (q6, .inl (cI, (53, .inl (upd g33 (Int32.toNatClampNeg 17) 102))))] : va_W) rfl rfl (by decide +kernel) rfl dX7_init_233 ?_
  generalize hg34 : upd g33 (Int32.toNatClampNeg 17) 102 = g34
  refine k_dup C 234 dX7_init_234 rfl ?_
  refine k_bipush C 235 18 dX7_init_235 rfl ?_
  refine k_bipush C 237 102 dX7_init_237 rfl ?_
  refine k_iast C 239 6 0 ([(h0, .inr (7, [.ref q1, .ref q2, .int 0, .int 0, .ref q3, .int 0, .int 0, .int 0, .int 0, .int 0, .ref q4, .int 0, .int 0, .int 0, .int 0, .int 0, .int 0, .int 0, .int 0, .ref q5, .null, .int 0, .int 0, .int 0, .int 0, .int 0, .int 0, .null, .null, .int 0, .null, .null, .null, .null, .null, .int 0])), (q1, .inl (cI, (408, .inl (fun _ => 0)))), (q2, .inl (cI, (4, .inl g4))), (q3, .inl (cI, (68, .inl (fun _ => 0)))), (q4, .inl (cI, (160, .inl (fun _ => 0)))), (q5, .inl (cI, (12, .inl g16))), (q6, .inl (cI, (53, .inl (upd g34 (Int32.toNatClampNeg 18) 102))))] : va_W) rfl rfl (by decide +kernel) rfl dX7_init_239 ?_
  generalize hg35 : upd g34 (Int32.toNatClampNeg 18) 102 = g35
  refine k_dup C 240 dX7_init_240 rfl ?_
  refine k_bipush C 241 19 dX7_init_241 rfl ?_
  refine k_bipush C 243 105 dX7_init_243 rfl ?_
  refine k_iast C 245 6 0 ([(h0, .inr (7, [.ref q1, .ref q2, .int 0, .int 0, .ref q3, .int 0, .int 0, .int 0, .int 0, .int 0, .ref q4, .int 0, .int 0, .int 0, .int 0, .int 0, .int 0, .int 0, .int 0, .ref q5, .null, .int 0, .int 0, .int 0, .int 0, .int 0, .int 0, .null, .null, .int 0, .null, .null, .null, .null, .null, .int 0])), (q1, .inl (cI, (408, .inl (fun _ => 0)))), (q2, .inl (cI, (4, .inl g4))), (q3, .inl (cI, (68, .inl (fun _ => 0)))), (q4, .inl (cI, (160, .inl (fun _ => 0)))), (q5, .inl (cI, (12, .inl g16))), (q6, .inl (cI, (53, .inl (upd g35 (Int32.toNatClampNeg 19) 105))))] : va_W) rfl rfl (by decide +kernel) rfl dX7_init_245 ?_
  generalize hg36 : upd g35 (Int32.toNatClampNeg 19) 105 = g36
  refine k_dup C 246 dX7_init_246 rfl ?_
  refine k_bipush C 247 20 dX7_init_247 rfl ?_
  refine k_bipush C 249 114 dX7_init_249 rfl ?_
  refine k_iast C 251 6 0 ([(h0, .inr (7, [.ref q1, .ref q2, .int 0, .int 0, .ref q3, .int 0, .int 0, .int 0, .int 0, .int 0, .ref q4, .int 0, .int 0, .int 0, .int 0, .int 0, .int 0, .int 0, .int 0, .ref q5, .null, .int 0, .int 0, .int 0, .int 0, .int 0, .int 0, .null, .null, .int 0, .null, .null, .null, .null, .null, .int 0])), (q1, .inl (cI, (408, .inl (fun _ => 0)))), (q2, .inl (cI, (4, .inl g4))), (q3, .inl (cI, (68, .inl (fun _ => 0)))), (q4, .inl (cI, (160, .inl (fun _ => 0)))), (q5, .inl (cI, (12, .inl g16))), (q6, .inl (cI, (53, .inl (upd g36 (Int32.toNatClampNeg 20) 114))))] : va_W) rfl rfl (by decide +kernel) rfl dX7_init_251 ?_
  generalize hg37 : upd g36 (Int32.toNatClampNeg 20) 114 = g37
  refine k_dup C 252 dX7_init_252 rfl ?_
  refine k_bipush C 253 21 dX7_init_253 rfl ?_
  refine k_bipush C 255 115 dX7_init_255 rfl ?_
  refine k_iast C 257 6 0 ([(h0, .inr (7, [.ref q1, .ref q2, .int 0, .int 0, .ref q3, .int 0, .int 0, .int 0, .int 0, .int 0, .ref q4, .int 0, .int 0, .int 0, .int 0, .int 0, .int 0, .int 0, .int 0, .ref q5, .null, .int 0, .int 0, .int 0, .int 0, .int 0, .int 0, .null, .null, .int 0, .null, .null, .null, .null, .null, .int 0])), (q1, .inl (cI, (408, .inl (fun _ => 0)))), (q2, .inl (cI, (4, .inl g4))), (q3, .inl (cI, (68, .inl (fun _ => 0)))), (q4, .inl (cI, (160, .inl (fun _ => 0)))), (q5, .inl (cI, (12, .inl g16))), (q6, .inl (cI, (53, .inl (upd g37 (Int32.toNatClampNeg 21) 115))))] : va_W) rfl rfl (by decide +kernel) rfl dX7_init_257 ?_
  generalize hg38 : upd g37 (Int32.toNatClampNeg 21) 115 = g38
  refine k_dup C 258 dX7_init_258 rfl ?_
  refine k_bipush C 259 22 dX7_init_259 rfl ?_
  refine k_bipush C 261 116 dX7_init_261 rfl ?_
  refine k_iast C 263 6 0 ([(h0, .inr (7, [.ref q1, .ref q2, .int 0, .int 0, .ref q3, .int 0, .int 0, .int 0, .int 0, .int 0, .ref q4, .int 0, .int 0, .int 0, .int 0, .int 0, .int 0, .int 0, .int 0, .ref q5, .null, .int 0, .int 0, .int 0, .int 0, .int 0, .int 0, .null, .null, .int 0, .null, .null, .null, .null, .null, .int 0])), (q1, .inl (cI, (408, .inl (fun _ => 0)))), (q2, .inl (cI, (4, .inl g4))), (q3, .inl (cI, (68, .inl (fun _ => 0)))), (q4, .inl (cI, (160, .inl (fun _ => 0)))), (q5, .inl (cI, (12, .inl g16))), (q6, .inl (cI, (53, .inl (upd g38 (Int32.toNatClampNeg 22) 116))))] : va_W) rfl rfl (by decide +kernel) rfl dX7_init_263 ?_
  generalize hg39 : upd g38 (Int32.toNatClampNeg 22) 116 = g39
  refine k_dup C 264 dX7_init_264 rfl ?_
  refine k_bipush C 265 23 dX7_init_265 rfl ?_
  refine k_bipush C 267 108 dX7_init_267 rfl ?_
  refine k_iast C 269 6 0 ([(h0, .inr (7, [.ref q1, .ref q2, .int 0, .int 0, .ref q3, .int 0, .int 0, .int 0, .int 0, .int 0, .ref q4, .int 0, .int 0, .int 0, .int 0, .int 0, .int 0, .int 0, .int 0, .ref q5, .null, .int 0, .int 0, .int 0, .int 0, .int 0, .int 0, .null, .null, .int 0, .null, .null, .null, .null, .null, .int 0])), (q1, .inl (cI, (408, .inl (fun _ => 0)))), (q2, .inl (cI, (4, .inl g4))), (q3, .inl (cI, (68, .inl (fun _ => 0)))), (q4, .inl (cI, (160, .inl (fun _ => 0)))), (q5, .inl (cI, (12, .inl g16))), (q6, .inl (cI, (53, .inl (upd g39 (Int32.toNatClampNeg 23) 108))))] : va_W) rfl rfl (by decide +kernel) rfl dX7_init_269 ?_
  generalize hg40 : upd g39 (Int32.toNatClampNeg 23) 108 = g40
  refine k_dup C 270 dX7_init_270 rfl ?_
  refine k_bipush C 271 24 dX7_init_271 rfl ?_
  refine k_bipush C 273 111 dX7_init_273 rfl ?_
  refine k_iast C 275 6 0 ([(h0, .inr (7, [.ref q1, .ref q2, .int 0, .int 0, .ref q3, .int 0, .int 0, .int 0, .int 0, .int 0, .ref q4, .int 0, .int 0, .int 0, .int 0, .int 0, .int 0, .int 0, .int 0, .ref q5, .null, .int 0, .int 0, .int 0, .int 0, .int 0, .int 0, .null, .null, .int 0, .null, .null, .null, .null, .null, .int 0])), (q1, .inl (cI, (408, .inl (fun _ => 0)))), (q2, .inl (cI, (4, .inl g4))), (q3, .inl (cI, (68, .inl (fun _ => 0)))), (q4, .inl (cI, (160, .inl (fun _ => 0)))), (q5, .inl (cI, (12, .inl g16))), (q6, .inl (cI, (53, .inl (upd g40 (Int32.toNatClampNeg 24) 111))))] : va_W) rfl rfl (by decide +kernel) rfl dX7_init_275 ?_
  generalize hg41 : upd g40 (Int32.toNatClampNeg 24) 111 = g41
  refine k_dup C 276 dX7_init_276 rfl ?_
  refine k_bipush C 277 25 dX7_init_277 rfl ?_
  refine k_bipush C 279 110 dX7_init_279 rfl ?_
  refine k_iast C 281 6 0 ([(h0, .inr (7, [.ref q1, .ref q2, .int 0, .int 0, .ref q3, .int 0, .int 0, .int 0, .int 0, .int 0, .ref q4, .int 0, .int 0, .int 0, .int 0, .int 0, .int 0, .int 0, .int 0, .ref q5, .null, .int 0, .int 0, .int 0, .int 0, .int 0, .int 0, .null, .null, .int 0, .null, .null, .null, .null, .null, .int 0])), (q1, .inl (cI, (408, .inl (fun _ => 0)))), (q2, .inl (cI, (4, .inl g4))), (q3, .inl (cI, (68, .inl (fun _ => 0)))), (q4, .inl (cI, (160, .inl (fun _ => 0)))), (q5, .inl (cI, (12, .inl g16))), (q6, .inl (cI, (53, .inl (upd g41 (Int32.toNatClampNeg 25) 110))))] : va_W) rfl rfl (by decide +kernel) rfl dX7_init_281 ?_
  generalize hg42 : upd g41 (Int32.toNatClampNeg 25) 110 = g42
  refine k_dup C 282 dX7_init_282 rfl ?_
  refine k_bipush C 283 26 dX7_init_283 rfl ?_
  refine k_bipush C 285 103 dX7_init_285 rfl ?_
  refine k_iast C 287 6 0 ([(h0, .inr (7, [.ref q1, .ref q2, .int 0, .int 0, .ref q3, .int 0, .int 0, .int 0, .int 0, .int 0, .ref q4, .int 0, .int 0, .int 0, .int 0, .int 0, .int 0, .int 0, .int 0, .ref q5, .null, .int 0, .int 0, .int 0, .int 0, .int 0, .int 0, .null, .null, .int 0, .null, .null, .null, .null, .null, .int 0])), (q1, .inl (cI, (408, .inl (fun _ => 0)))), (q2, .inl (cI, (4, .inl g4))), (q3, .inl (cI, (68, .inl (fun _ => 0)))), (q4, .inl (cI, (160, .inl (fun _ => 0)))), (q5, .inl (cI, (12, .inl g16))), (q6, .inl (cI, (53, .inl (upd g42 (Int32.toNatClampNeg 26) 103))))] : va_W) rfl rfl (by decide +kernel) rfl dX7_init_287 ?_
  generalize hg43 : upd g42 (Int32.toNatClampNeg 26) 103 = g43
  refine k_dup C 288 dX7_init_288 rfl ?_
  refine k_bipush C 289 27 dX7_init_289 rfl ?_
  refine k_bipush C 291 115 dX7_init_291 rfl ?_
  refine k_iast C 293 6 0 ([(h0, .inr (7, [.ref q1, .ref q2, .int 0, .int 0, .ref q3, .int 0, .int 0, .int 0, .int 0, .int 0, .ref q4, .int 0, .int 0, .int 0, .int 0, .int 0, .int 0, .int 0, .int 0, .ref q5, .null, .int 0, .int 0, .int 0, .int 0, .int 0, .int 0, .null, .null, .int 0, .null, .null, .null, .null, .null, .int 0])), (q1, .inl (cI, (408, .inl (fun _ => 0)))), (q2, .inl (cI, (4, .inl g4))), (q3, .inl (cI, (68, .inl (fun _ => 0)))), (q4, .inl (cI, (160, .inl (fun _ => 0)))), (q5, .inl (cI, (12, .inl g16))), (q6, .inl (cI, (53, .inl (upd g43 (Int32.toNatClampNeg 27) 115))))] : va_W) rfl rfl (by decide +kernel) rfl dX7_init_293 ?_
  generalize hg44 : upd g43 (Int32.toNatClampNeg 27) 115 = g44
  refine k_dup C 294 dX7_init_294 rfl ?_
  refine k_bipush C 295 28 dX7_init_295 rfl ?_
  refine k_bipush C 297 104 dX7_init_297 rfl ?_
  refine k_iast C 299 6 0 ([(h0, .inr (7, [.ref q1, .ref q2, .int 0, .int 0, .ref q3, .int 0, .int 0, .int 0, .int 0, .int 0, .ref q4, .int 0, .int 0, .int 0, .int 0, .int 0, .int 0, .int 0, .int 0, .ref q5, .null, .int 0, .int 0, .int 0, .int 0, .int 0, .int 0, .null, .null, .int 0, .null, .null, .null, .null, .null, .int 0])), (q1, .inl (cI, (408, .inl (fun _ => 0)))), (q2, .inl (cI, (4, .inl g4))), (q3, .inl (cI, (68, .inl (fun _ => 0)))), (q4, .inl (cI, (160, .inl (fun _ => 0)))), (q5, .inl (cI, (12, .inl g16))), (q6, .inl (cI, (53, .inl (upd g44 (Int32.toNatClampNeg 28) 104))))] : va_W) rfl rfl (by decide +kernel) rfl dX7_init_299 ?_
  generalize hg45 : upd g44 (Int32.toNatClampNeg 28) 104 = g45
  refine k_dup C 300 dX7_init_300 rfl ?_
  refine k_bipush C 301 29 dX7_init_301 rfl ?_
  refine k_bipush C 303 111 dX7_init_303 rfl ?_
  refine k_iast C 305 6 0 ([(h0, .inr (7, [.ref q1, .ref q2, .int 0, .int 0, .ref q3, .int 0, .int 0, .int 0, .int 0, .int 0, .ref q4, .int 0, .int 0, .int 0, .int 0, .int 0, .int 0, .int 0, .int 0, .ref q5, .null, .int 0, .int 0, .int 0, .int 0, .int 0, .int 0, .null, .null, .int 0, .null, .null, .null, .null, .null, .int 0])), (q1, .inl (cI, (408, .inl (fun _ => 0)))), (q2, .inl (cI, (4, .inl g4))), (q3, .inl (cI, (68, .inl (fun _ => 0)))), (q4, .inl (cI, (160, .inl (fun _ => 0)))), (q5, .inl (cI, (12, .inl g16))), (q6, .inl (cI, (53, .inl (upd g45 (Int32.toNatClampNeg 29) 111))))] : va_W) rfl rfl (by decide +kernel) rfl dX7_init_305 ?_
  generalize hg46 : upd g45 (Int32.toNatClampNeg 29) 111 = g46
  refine k_dup C 306 dX7_init_306 rfl ?_
  refine k_bipush C 307 30 dX7_init_307 rfl ?_
  refine k_bipush C 309 114 dX7_init_309 rfl ?_
  refine k_iast C 311 6 0 ([(h0, .inr (7, [.ref q1, .ref q2, .int 0, .int 0, .ref q3, .int 0, .int 0, .int 0, .int 0, .int 0, .ref q4, .int 0, .int 0, .int 0, .int 0, .int 0, .int 0, .int 0, .int 0, .ref q5, .null, .int 0, .int 0, .int 0, .int 0, .int 0, .int 0, .null, .null, .int 0, .null, .null, .null, .null, .null, .int 0])), (q1, .inl (cI, (408, .inl (fun _ => 0)))), (q2, .inl (cI, (4, .inl g4))), (q3, .inl (cI, (68, .inl (fun _ => 0)))), (q4, .inl (cI, (160, .inl (fun _ => 0)))), (q5, .inl (cI, (12, .inl g16))), (q6, .inl (cI, (53, .inl (upd g46 (Int32.toNatClampNeg 30) 114))))] : va_W) rfl rfl (by decide +kernel) rfl dX7_init_311 ?_
  generalize hg47 : upd g46 (Int32.toNatClampNeg 30) 114 = g47
  refine k_dup C 312 dX7_init_312 rfl ?_
  refine k_bipush C 313 31 dX7_init_313 rfl ?_
  refine k_bipush C 315 116 dX7_init_315 rfl ?_
  refine k_iast C 317 6 0 ([(h0, .inr (7, [.ref q1, .ref q2, .int 0, .int 0, .ref q3, .int 0, .int 0, .int 0, .int 0, .int 0, .ref q4, .int 0, .int 0, .int 0, .int 0, .int 0, .int 0, .int 0, .int 0, .ref q5, .null, .int 0, .int 0, .int 0, .int 0, .int 0, .int 0, .null, .null, .int 0, .null, .null, .null, .null, .null, .int 0])), (q1, .inl (cI, (408, .inl (fun _ => 0)))), (q2, .inl (cI, (4, .inl g4))), (q3, .inl (cI, (68, .inl (fun _ => 0)))), (q4, .inl (cI, (160, .inl (fun _ => 0)))), (q5, .inl (cI, (12, .inl g16))), (q6, .inl (cI, (53, .inl (upd g47 (Int32.toNatClampNeg 31) 116))))] : va_W) rfl rfl (by decide +kernel) rfl dX7_init_317 ?_
  generalize hg48 : upd g47 (Int32.toNatClampNeg 31) 116 = g48
  refine k_dup C 318 dX7_init_318 rfl ?_
  refine k_bipush C 319 32 dX7_init_319 rfl ?_
  refine k_bipush C 321 98 dX7_init_321 rfl ?_
  refine k_iast C 323 6 0 ([(h0, .inr (7, [.ref q1, .ref q2, .int 0, .int 0, .ref q3, .int 0, .int 0, .int 0, .int 0, .int 0, .ref q4, .int 0, .int 0, .int 0, .int 0, .int 0, .int 0, .int 0, .int 0, .ref q5, .null, .int 0, .int 0, .int 0, .int 0, .int 0, .int 0, .null, .null, .int 0, .null, .null, .null, .null, .null, .int 0])), (q1, .inl (cI, (408, .inl (fun _ => 0)))), (q2, .inl (cI, (4, .inl g4))), (q3, .inl (cI, (68, .inl (fun _ => 0)))), (q4, .inl (cI, (160, .inl (fun _ => 0)))), (q5, .inl (cI, (12, .inl g16))), (q6, .inl (cI, (53, .inl (upd g48 (Int32.toNatClampNeg 32) 98))))] : va_W) rfl rfl (by decide +kernel) rfl dX7_init_323 ?_
  generalize hg49 : upd g48 (Int32.toNatClampNeg 32) 98 = g49
  refine k_dup C 324 dX7_init_324 rfl ?_
  refine k_bipush C 325 33 dX7_init_325 rfl ?_
  refine k_bipush C 327 97 dX7_init_327 rfl ?_
  refine k_iast C 329 6 0 ([(h0, .inr (7, [.ref q1, .ref q2, .int 0, .int 0, .ref q3, .int 0, .int 0, .int 0, .int 0, .int 0, .ref q4, .int 0, .int 0, .int 0, .int 0, .int 0, .int 0, .int 0, .int 0, .ref q5, .null, .int 0, .int 0, .int 0, .int 0, .int 0, .int 0, .null, .null, .int 0, .null, .null, .null, .null, .null, .int 0])), (q1, .inl (cI, (408, .inl (fun _ => 0)))), (q2, .inl (cI, (4, .inl g4))), (q3, .inl (cI, (68, .inl (fun _ => 0)))), (q4, .inl (cI, (160, .inl (fun _ => 0)))), (q5, .inl (cI, (12, .inl g16))), (q6, .inl (cI, (53, .inl (upd g49 (Int32.toNatClampNeg 33) 97))))] : va_W) rfl rfl (by decide +kernel) rfl dX7_init_329 ?_
  generalize hg50 : upd g49 (Int32.toNatClampNeg 33) 97 = g50
  refine k_dup C 330 dX7_init_330 rfl ?_
  refine k_bipush C 331 34 dX7_init_331 rfl ?_
  refine k_bipush C 333 114 dX7_init_333 rfl ?_
  refine k_iast C 335 6 0 ([(h0, .inr (7, [.ref q1, .ref q2, .int 0, .int 0, .ref q3, .int 0, .int 0, .int 0, .int 0, .int 0, .ref q4, .int 0, .int 0, .int 0, .int 0, .int 0, .int 0, .int 0, .int 0, .ref q5, .null, .int 0, .int 0, .int 0, .int 0, .int 0, .int 0, .null, .null, .int 0, .null, .null, .null, .null, .null, .int 0])), (q1, .inl (cI, (408, .inl (fun _ => 0)))), (q2, .inl (cI, (4, .inl g4))), (q3, .inl (cI, (68, .inl (fun _ => 0)))), (q4, .inl (cI, (160, .inl (fun _ => 0)))), (q5, .inl (cI, (12, .inl g16))), (q6, .inl (cI, (53, .inl (upd g50 (Int32.toNatClampNeg 34) 114))))] : va_W) rfl rfl (by decide +kernel) rfl dX7_init_335 ?_
  generalize hg51 : upd g50 (Int32.toNatClampNeg 34) 114 = g51
  refine k_dup C 336 dX7_init_336 rfl ?_
  refine k_bipush C 337 35 dX7_init_337 rfl ?_
  refine k_bipush C 339 101 dX7_init_339 rfl ?_
  refine k_iast C 341 6 0 ([(h0, .inr (7, [.ref q1, .ref q2, .int 0, .int 0, .ref q3, .int 0, .int 0, .int 0, .int 0, .int 0, .ref q4, .int 0, .int 0, .int 0, .int 0, .int 0, .int 0, .int 0, .int 0, .ref q5, .null, .int 0, .int 0, .int 0, .int 0, .int 0, .int 0, .null, .null, .int 0, .null, .null, .null, .null, .null, .int 0])), (q1, .inl (cI, (408, .inl (fun _ => 0)))), (q2, .inl (cI, (4, .inl g4))), (q3, .inl (cI, (68, .inl (fun _ => 0)))), (q4, .inl (cI, (160, .inl (fun _ => 0)))), (q5, .inl (cI, (12, .inl g16))), (q6, .inl (cI, (53, .inl (upd g51 (Int32.toNatClampNeg 35) 101))))] : va_W) rfl rfl (by decide +kernel) rfl dX7_init_341 ?_
  generalize hg52 : upd g51 (Int32.toNatClampNeg 35) 101 = g52
  refine k_dup C 342 dX7_init_342 rfl ?_
  refine k_bipush C 343 36 dX7_init_343 rfl ?_
  refine k_bipush C 345 99 dX7_init_345 rfl ?_
  refine k_iast C 347 6 0 ([(h0, .inr (7, [.ref q1, .ref q2, .int 0, .int 0, .ref q3, .int 0, .int 0, .int 0, .int 0, .int 0, .ref q4, .int 0, .int 0, .int 0, .int 0, .int 0, .int 0, .int 0, .int 0, .ref q5, .null, .int 0, .int 0, .int 0, .int 0, .int 0, .int 0, .null, .null, .int 0, .null, .null, .null, .null, .null, .int 0])), (q1, .inl (cI, (408, .inl (fun _ => 0)))), (q2, .inl (cI, (4, .inl g4))), (q3, .inl (cI, (68, .inl (fun _ => 0)))), (q4, .inl (cI, (160, .inl (fun _ => 0)))), (q5, .inl (cI, (12, .inl g16))), (q6, .inl (cI, (53, .inl (upd g52 (Int32.toNatClampNeg 36) 99))))] : va_W) rfl rfl (by decide +kernel) rfl dX7_init_347 ?_
  generalize hg53 : upd g52 (Int32.toNatClampNeg 36) 99 = g53
  refine k_dup C 348 dX7_init_348 rfl ?_
  refine k_bipush C 349 37 dX7_init_349 rfl ?_
  refine k_bipush C 351 97 dX7_init_351 rfl ?_
  refine k_iast C 353 6 0 ([(h0, .inr (7, [.ref q1, .ref q2, .int 0, .int 0, .ref q3, .int 0, .int 0, .int 0, .int 0, .int 0, .ref q4, .int 0, .int 0, .int 0, .int 0, .int 0, .int 0, .int 0, .int 0, .ref q5, .null, .int 0, .int 0, .int 0, .int 0, .int 0, .int 0, .null, .null, .int 0, .null, .null, .null, .null, .null, .int 0])), (q1, .inl (cI, (408, .inl (fun _ => 0)))), (q2, .inl (cI, (4, .inl g4))), (q3, .inl (cI, (68, .inl (fun _ => 0)))), (q4, .inl (cI, (160, .inl (fun _ => 0)))), (q5, .inl (cI, (12, .inl g16))), (q6, .inl (cI, (53, .inl (upd g53 (Int32.toNatClampNeg 37) 97))))] : va_W) rfl rfl (by decide +kernel) rfl dX7_init_353 ?_
  generalize hg54 : upd g53 (Int32.toNatClampNeg 37) 97 = g54
  refine k_dup C 354 dX7_init_354 rfl ?_
  refine k_bipush C 355 38 dX7_init_355 rfl ?_
  refine k_bipush C 357 115 dX7_init_357 rfl ?_
  refine k_iast C 359 6 0 ([(h0, .inr (7, [.ref q1, .ref q2, .int 0, .int 0, .ref q3, .int 0, .int 0, .int 0, .int 0, .int 0, .ref q4, .int 0, .int 0, .int 0, .int 0, .int 0, .int 0, .int 0, .int 0, .ref q5, .null, .int 0, .int 0, .int 0, .int 0, .int 0, .int 0, .null, .null, .int 0, .null, .null, .null, .null, .null, .int 0])), (q1, .inl (cI, (408, .inl (fun _ => 0)))), (q2, .inl (cI, (4, .inl g4))), (q3, .inl (cI, (68, .inl (fun _ => 0)))), (q4, .inl (cI, (160, .inl (fun _ => 0)))), (q5, .inl (cI, (12, .inl g16))), (q6, .inl (cI, (53, .inl (upd g54 (Int32.toNatClampNeg 38) 115))))] : va_W) rfl rfl (by decide +kernel) rfl dX7_init_359 ?_
  generalize hg55 : upd g54 (Int32.toNatClampNeg 38) 115 = g55
  refine k_dup C 360 dX7_init_360 rfl ?_
  refine k_bipush C 361 39 dX7_init_361 rfl ?_
  refine k_bipush C 363 101 dX7_init_363 rfl ?_
  refine k_iast C 365 6 0 ([(h0, .inr (7, [.ref q1, .ref q2, .int 0, .int 0, .ref q3, .int 0, .int 0, .int 0, .int 0, .int 0, .ref q4, .int 0, .int 0, .int 0, .int 0, .int 0, .int 0, .int 0, .int 0, .ref q5, .null, .int 0, .int 0, .int 0, .int 0, .int 0, .int 0, .null, .null, .int 0, .null, .null, .null, .null, .null, .int 0])), (q1, .inl (cI, (408, .inl (fun _ => 0)))), (q2, .inl (cI, (4, .inl g4))), (q3, .inl (cI, (68, .inl (fun _ => 0)))), (q4, .inl (cI, (160, .inl (fun _ => 0)))), (q5, .inl (cI, (12, .inl g16))), (q6, .inl (cI, (53, .inl (upd g55 (Int32.toNatClampNeg 39) 101))))] : va_W) rfl rfl (by decide +kernel) rfl dX7_init_365 ?_
  generalize hg56 : upd g55 (Int32.toNatClampNeg 39) 101 = g56
  refine k_dup C 366 dX7_init_366 rfl ?_
  refine k_bipush C 367 40 dX7_init_367 rfl ?_
  refine k_bipush C 369 100 dX7_init_369 rfl ?_
  refine k_iast C 371 6 0 ([(h0, .inr (7, [.ref q1, .ref q2, .int 0, .int 0, .ref q3, .int 0, .int 0, .int 0, .int 0, .int 0, .ref q4, .int 0, .int 0, .int 0, .int 0, .int 0, .int 0, .int 0, .int 0, .ref q5, .null, .int 0, .int 0, .int 0, .int 0, .int 0, .int 0, .null, .null, .int 0, .null, .null, .null, .null, .null, .int 0])), (q1, .inl (cI, (408, .inl (fun _ => 0)))), (q2, .inl (cI, (4, .inl g4))), (q3, .inl (cI, (68, .inl (fun _ => 0)))), (q4, .inl (cI, (160, .inl (fun _ => 0)))), (q5, .inl (cI, (12, .inl g16))), (q6, .inl (cI, (53, .inl (upd g56 (Int32.toNatClampNeg 40) 100))))] : va_W) rfl rfl (by decide +kernel) rfl dX7_init_371 ?_
  generalize hg57 : upd g56 (Int32.toNatClampNeg 40) 100 = g57
  refine k_dup C 372 dX7_init_372 rfl ?_
  refine k_bipush C 373 41 dX7_init_373 rfl ?_
  refine k_bipush C 375 114 dX7_init_375 rfl ?_
  refine k_iast C 377 6 0 ([(h0, .inr (7, [.ref q1, .ref q2, .int 0, .int 0, .ref q3, .int 0, .int 0, .int 0, .int 0, .int 0, .ref q4, .int 0, .int 0, .int 0, .int 0, .int 0, .int 0, .int 0, .int 0, .ref q5, .null, .int 0, .int 0, .int 0, .int 0, .int 0, .int 0, .null, .null, .int 0, .null, .null, .null, .null, .null, .int 0])), (q1, .inl (cI, (408, .inl (fun _ => 0)))), (q2, .inl (cI, (4, .inl g4))), (q3, .inl (cI, (68, .inl (fun _ => 0)))), (q4, .inl (cI, (160, .inl (fun _ => 0)))), (q5, .inl (cI, (12, .inl g16))), (q6, .inl (cI, (53, .inl (upd g57 (Int32.toNatClampNeg 41) 114))))] : va_W) rfl rfl (by decide +kernel) rfl dX7_init_377 ?_
  generalize hg58 : upd g57 (Int32.toNatClampNeg 41) 114 = g58
  refine k_dup C 378 dX7_init_378 rfl ?_
  refine k_bipush C 379 42 dX7_init_379 rfl ?_
  refine k_bipush C 381 97 dX7_init_381 rfl ?_
  refine k_iast C 383 6 0 ([(h0, .inr (7, [.ref q1, .ref q2, .int 0, .int 0, .ref q3, .int 0, .int 0, .int 0, .int 0, .int 0, .ref q4, .int 0, .int 0, .int 0, .int 0, .int 0, .int 0, .int 0, .int 0, .ref q5, .null, .int 0, .int 0, .int 0, .int 0, .int 0, .int 0, .null, .null, .int 0, .null, .null, .null, .null, .null, .int 0])), (q1, .inl (cI, (408, .inl (fun _ => 0)))), (q2, .inl (cI, (4, .inl g4))), (q3, .inl (cI, (68, .inl (fun _ => 0)))), (q4, .inl (cI, (160, .inl (fun _ => 0)))), (q5, .inl (cI, (12, .inl g16))), (q6, .inl (cI, (53, .inl (upd g58 (Int32.toNatClampNeg 42) 97))))] : va_W) rfl rfl (by decide +kernel) rfl dX7_init_383 ?_
  generalize hg59 : upd g58 (Int32.toNatClampNeg 42) 97 = g59
  refine k_dup C 384 dX7_init_384 rfl ?_
  refine k_bipush C 385 43 dX7_init_385 rfl ?_
  refine k_bipush C 387 117 dX7_init_387 rfl ?_
  refine k_iast C 389 6 0 ([(h0, .inr (7, [.ref q1, .ref q2, .int 0, .int 0, .ref q3, .int 0, .int 0, .int 0, .int 0, .int 0, .ref q4, .int 0, .int 0, .int 0, .int 0, .int 0, .int 0, .int 0, .int 0, .ref q5, .null, .int 0, .int 0, .int 0, .int 0, .int 0, .int 0, .null, .null, .int 0, .null, .null, .null, .null, .null, .int 0])), (q1, .inl (cI, (408, .inl (fun _ => 0)))), (q2, .inl (cI, (4, .inl g4))), (q3, .inl (cI, (68, .inl (fun _ => 0)))), (q4, .inl (cI, (160, .inl (fun _ => 0)))), (q5, .inl (cI, (12, .inl g16))), (q6, .inl (cI, (53, .inl (upd g59 (Int32.toNatClampNeg 43) 117))))] : va_W) rfl rfl (by decide +kernel) rfl dX7_init_389 ?_
  generalize hg60 : upd g59 (Int32.toNatClampNeg 43) 117 = g60
  refine k_dup C 390 dX7_init_390 rfl ?_
  refine k_bipush C 391 44 dX7_init_391 rfl ?_
  refine k_bipush C 393 103 dX7_init_393 rfl ?_
  refine k_iast C 395 6 0 ([(h0, .inr (7, [.ref q1, .ref q2, .int 0, .int 0, .ref q3, .int 0, .int 0, .int 0, .int 0, .int 0, .ref q4, .int 0, .int 0, .int 0, .int 0, .int 0, .int 0, .int 0, .int 0, .ref q5, .null, .int 0, .int 0, .int 0, .int 0, .int 0, .int 0, .null, .null, .int 0, .null, .null, .null, .null, .null, .int 0])), (q1, .inl (cI, (408, .inl (fun _ => 0)))), (q2, .inl (cI, (4, .inl g4))), (q3, .inl (cI, (68, .inl (fun _ => 0)))), (q4, .inl (cI, (160, .inl (fun _ => 0)))), (q5, .inl (cI, (12, .inl g16))), (q6, .inl (cI, (53, .inl (upd g60 (Int32.toNatClampNeg 44) 103))))] : va_W) rfl rfl (by decide +kernel) rfl dX7_init_395 ?_
  generalize hg61 : upd g60 (Int32.toNatClampNeg 44) 103 = g61
  refine k_dup C 396 dX7_init_396 rfl ?_
  refine k_bipush C 397 45 dX7_init_397 rfl ?_
  refine k_bipush C 399 104 dX7_init_399 rfl ?_
  refine k_iast C 401 6 0 ([(h0, .inr (7, [.ref q1, .ref q2, .int 0, .int 0, .ref q3, .int 0, .int 0, .int 0, .int 0, .int 0, .ref q4, .int 0, .int 0, .int 0, .int 0, .int 0, .int 0, .int 0, .int 0, .ref q5, .null, .int 0, .int 0, .int 0, .int 0, .int 0, .int 0, .null, .null, .int 0, .null, .null, .null, .null, .null, .int 0])), (q1, .inl (cI, (408, .inl (fun _ => 0)))), (q2, .inl (cI, (4, .inl g4))), (q3, .inl (cI, (68, .inl (fun _ => 0)))), (q4, .inl (cI, (160, .inl (fun _ => 0)))), (q5, .inl (cI, (12, .inl g16))), (q6, .inl (cI, (53, .inl (upd g61 (Int32.toNatClampNeg 45) 104))))] : va_W) rfl rfl (by decide +kernel) rfl dX7_init_401 ?_
  generalize hg62 : upd g61 (Int32.toNatClampNeg 45) 104 = g62
  refine k_dup C 402 dX7_init_402 rfl ?_
  refine k_bipush C 403 46 dX7_init_403 rfl ?_
  refine k_bipush C 405 116 dX7_init_405 rfl ?_
  refine k_iast C 407 6 0 ([(h0, .inr (7, [.ref q1, .ref q2, .int 0, .int 0, .ref q3, .int 0, .int 0, .int 0, .int 0, .int 0, .ref q4, .int 0, .int 0, .int 0, .int 0, .int 0, .int 0, .int 0, .int 0, .ref q5, .null, .int 0, .int 0, .int 0, .int 0, .int 0, .int 0, .null, .null, .int 0, .null, .null, .null, .null, .null, .int 0])), (q1, .inl (cI, (408, .inl (fun _ => 0)))), (q2, .inl (cI, (4, .inl g4))), (q3, .inl (cI, (68, .inl (fun _ => 0)))), (q4, .inl (cI, (160, .inl (fun _ => 0)))), (q5, .inl (cI, (12, .inl g16))), (q6, .inl (cI, (53, .inl (upd g62 (Int32.toNatClampNeg 46) 116))))] : va_W) rfl rfl (by decide +kernel) rfl dX7_init_407 ?_
  generalize hg63 : upd g62 (Int32.toNatClampNeg 46) 116 = g63
  refine k_dup C 408 dX7_init_408 rfl ?_
  refine k_bipush C 409 47 dX7_init_409 rfl ?_
  refine k_bipush C 411 100 dX7_init_411 rfl ?_
  refine k_iast C 413 6 0 ([(h0, .inr (7, [.ref q1, .ref q2, .int 0, .int 0, .ref q3, .int 0, .int 0, .int 0, .int 0, .int 0, .ref q4, .int 0, .int 0, .int 0, .int 0, .int 0, .int 0, .int 0, .int 0, .ref q5, .null, .int 0, .int 0, .int 0, .int 0, .int 0, .int 0, .null, .null, .int 0, .null, .null, .null, .null, .null, .int 0])), (q1, .inl (cI, (408, .inl (fun _ => 0)))), (q2, .inl (cI, (4, .inl g4))), (q3, .inl (cI, (68, .inl (fun _ => 0)))), (q4, .inl (cI, (160, .inl (fun _ => 0)))), (q5, .inl (cI, (12, .inl g16))), (q6, .inl (cI, (53, .inl (upd g63 (Int32.toNatClampNeg 47) 100))))] : va_W) rfl rfl (by decide +kernel) rfl dX7_init_413 ?_
  generalize hg64 : upd g63 (Int32.toNatClampNeg 47) 100 = g64
  refine k_dup C 414 dX7_init_414 rfl ?_
  refine k_bipush C 415 48 dX7_init_415 rfl ?_
  refine k_bipush C 417 111 dX7_init_417 rfl ?_
  refine k_iast C 419 6 0 ([(h0, .inr (7, [.ref q1, .ref q2, .int 0, .int 0, .ref q3, .int 0, .int 0, .int 0, .int 0, .int 0, .ref q4, .int 0, .int 0, .int 0, .int 0, .int 0, .int 0, .int 0, .int 0, .ref q5, .null, .int 0, .int 0, .int 0, .int 0, .int 0, .int 0, .null, .null, .int 0, .null, .null, .null, .null, .null, .int 0])), (q1, .inl (cI, (408, .inl (fun _ => 0)))), (q2, .inl (cI, (4, .inl g4))), (q3, .inl (cI, (68, .inl (fun _ => 0)))), (q4, .inl (cI, (160, .inl (fun _ => 0)))), (q5, .inl (cI, (12, .inl g16))), (q6, .inl (cI, (53, .inl (upd g64 (Int32.toNatClampNeg 48) 111))))] : va_W) rfl rfl (by decide +kernel) rfl dX7_init_419 ?_
  generalize hg65 : upd g64 (Int32.toNatClampNeg 48) 111 = g65
  refine k_dup C 420 dX7_init_420 rfl ?_
  refine k_bipush C 421 49 dX7_init_421 rfl ?_
  refine k_bipush C 423 99 dX7_init_423 rfl ?_
  refine k_iast C 425 6 0 ([(h0, .inr (7, [.ref q1, .ref q2, .int 0, .int 0, .ref q3, .int 0, .int 0, .int 0, .int 0, .int 0, .ref q4, .int 0, .int 0, .int 0, .int 0, .int 0, .int 0, .int 0, .int 0, .ref q5, .null, .int 0, .int 0, .int 0, .int 0, .int 0, .int 0, .null, .null, .int 0, .null, .null, .null, .null, .null, .int 0])), (q1, .inl (cI, (408, .inl (fun _ => 0)))), (q2, .inl (cI, (4, .inl g4))), (q3, .inl (cI, (68, .inl (fun _ => 0)))), (q4, .inl (cI, (160, .inl (fun _ => 0)))), (q5, .inl (cI, (12, .inl g16))), (q6, .inl (cI, (53, .inl (upd g65 (Int32.toNatClampNeg 49) 99))))] : va_W) rfl rfl (by decide +kernel) rfl dX7_init_425 ?_
  generalize hg66 : upd g65 (Int32.toNatClampNeg 49) 99 = g66
  refine k_dup C 426 dX7_init_426 rfl ?_
  refine k_bipush C 427 50 dX7_init_427 rfl ?_
  refine k_bipush C 429 107 dX7_init_429 rfl ?_
  refine k_iast C 431 6 0 ([(h0, .inr (7, [.ref q1, .ref q2, .int 0, .int 0, .ref q3, .int 0, .int 0, .int 0, .int 0, .int 0, .ref q4, .int 0, .int 0, .int 0, .int 0, .int 0, .int 0, .int 0, .int 0, .ref q5, .null, .int 0, .int 0, .int 0, .int 0, .int 0, .int 0, .null, .null, .int 0, .null, .null, .null, .null, .null, .int 0])), (q1, .inl (cI, (408, .inl (fun _ => 0)))), (q2, .inl (cI, (4, .inl g4))), (q3, .inl (cI, (68, .inl (fun _ => 0)))), (q4, .inl (cI, (160, .inl (fun _ => 0)))), (q5, .inl (cI, (12, .inl g16))), (q6, .inl (cI, (53, .inl (upd g66 (Int32.toNatClampNeg 50) 107))))] : va_W) rfl rfl (by decide +kernel) rfl dX7_init_431 ?_
  generalize hg67 : upd g66 (Int32.toNatClampNeg 50) 107 = g67
  refine k_dup C 432 dX7_init_432 rfl ?_
  refine k_bipush C 433 51 dX7_init_433 rfl ?_
  refine k_bipush C 435 101 dX7_init_435 rfl ?_
  refine k_iast C 437 6 0 ([(h0, .inr (7, [.ref q1, .ref q2, .int 0, .int 0, .ref q3, .int 0, .int 0, .int 0, .int 0, .int 0, .ref q4, .int 0, .int 0, .int 0, .int 0, .int 0, .int 0, .int 0, .int 0, .ref q5, .null, .int 0, .int 0, .int 0, .int 0, .int 0, .int 0, .null, .null, .int 0, .null, .null, .null, .null, .null, .int 0])), (q1, .inl (cI, (408, .inl (fun _ => 0)))), (q2, .inl (cI, (4, .inl g4))), (q3, .inl (cI, (68, .inl (fun _ => 0)))), (q4, .inl (cI, (160, .inl (fun _ => 0)))), (q5, .inl (cI, (12, .inl g16))), (q6, .inl (cI, (53, .inl (upd g67 (Int32.toNatClampNeg 51) 101))))] : va_W) rfl rfl (by decide +kernel) rfl dX7_init_437 ?_
  generalize hg68 : upd g67 (Int32.toNatClampNeg 51) 101 = g68
  refine k_dup C 438 dX7_init_438 rfl ?_
  refine k_bipush C 439 52 dX7_init_439 rfl ?_
  refine k_bipush C 441 116 dX7_init_441 rfl ?_
  refine k_iast C 443 6 0 ([(h0, .inr (7, [.ref q1, .ref q2, .int 0, .int 0, .ref q3, .int 0, .int 0, .int 0, .int 0, .int 0, .ref q4, .int 0, .int 0, .int 0, .int 0, .int 0, .int 0, .int 0, .int 0, .ref q5, .null, .int 0, .int 0, .int 0, .int 0, .int 0, .int 0, .null, .null, .int 0, .null, .null, .null, .null, .null, .int 0])), (q1, .inl (cI, (408, .inl (fun _ => 0)))), (q2, .inl (cI, (4, .inl g4))), (q3, .inl (cI, (68, .inl (fun _ => 0)))), (q4, .inl (cI, (160, .inl (fun _ => 0)))), (q5, .inl (cI, (12, .inl g16))), (q6, .inl (cI, (53, .inl (upd g68 (Int32.toNatClampNeg 52) 116))))] : va_W) rfl rfl (by decide +kernel) rfl dX7_init_443 ?_
  generalize hg69 : upd g68 (Int32.toNatClampNeg 52) 116 = g69
  refine k_putF (T := TX7) C hin 444 0 20 tyX7 (.array .int) ([(h0, .inr (7, [.ref q1, .ref q2, .int 0, .int 0, .ref q3, .int 0, .int 0, .int 0, .int 0, .int 0, .ref q4, .int 0, .int 0, .int 0, .int 0, .int 0, .int 0, .int 0, .int 0, .ref q5, .ref q6, .int 0, .int 0, .int 0, .int 0, .int 0, .int 0, .null, .null, .int 0, .null, .null, .null, .null, .null, .int 0])), (q1, .inl (cI, (408, .inl (fun _ => 0)))), (q2, .inl (cI, (4, .inl g4))), (q3, .inl (cI, (68, .inl (fun _ => 0)))), (q4, .inl (cI, (160, .inl (fun _ => 0)))), (q5, .inl (cI, (12, .inl g16))), (q6, .inl (cI, (53, .inl g69)))] : va_W) iX7 tyX7_ok nmX7 rfl rfl rfl (by decide) (List.mem_cons_of_mem _ (List.mem_append_right _ wgL_5_19.1)) rfl rfl (tyX7_ok 20 (by decide)) rfl rfl (Nat.le_of_ble_eq_true rfl) dX7_init_444 ?_
  refine k_aload_n C 447 0 dX7_init_447 rfl ?_
  refine k_bipush C 448 100 dX7_init_448 rfl ?_
  refine k_newi C 450 0 100 (List.mem_cons_of_mem _ (List.mem_append_right _ wgL_2_16.1)) rfl (by decide) (by decide +kernel) (by decide) ⟨Nat.le_of_ble_eq_true rfl, Nat.le_of_ble_eq_true rfl⟩ dX7_init_450 (fun q7 => ?_)
  refine k_norm ([(h0, .inr (7, [.ref q1, .ref q2, .int 0, .int 0, .ref q3, .int 0, .int 0, .int 0, .int 0, .int 0, .ref q4, .int 0, .int 0, .int 0, .int 0, .int 0, .int 0, .int 0, .int 0, .ref q5, .ref q6, .int 0, .int 0, .int 0, .int 0, .int 0, .int 0, .null, .null, .int 0, .null, .null, .null, .null, .null, .int 0])), (q1, .inl (cI, (408, .inl (fun _ => 0)))), (q2, .inl (cI, (4, .inl g4))), (q3, .inl (cI, (68, .inl (fun _ => 0)))), (q4, .inl (cI, (160, .inl (fun _ => 0)))), (q5, .inl (cI, (12, .inl g16))), (q6, .inl (cI, (53, .inl g69))), (q7, .inl (cI, (100, .inl (fun _ => 0))))] : va_W) rfl ?_
  refine k_putF (T := TX7) C hin 452 0 27 tyX7 (.array .int) ([(h0, .inr (7, [.ref q1, .ref q2, .int 0, .int 0, .ref q3, .int 0, .int 0, .int 0, .int 0, .int 0, .ref q4, .int 0, .int 0, .int 0, .int 0, .int 0, .int 0, .int 0, .int 0, .ref q5, .ref q6, .int 0, .int 0, .int 0, .int 0, .int 0, .int 0, .ref q7, .null, .int 0, .null, .null, .null, .null, .null, .int 0])), (q1, .inl (cI, (408, .inl (fun _ => 0)))), (q2, .inl (cI, (4, .inl g4))), (q3, .inl (cI, (68, .inl (fun _ => 0)))), (q4, .inl (cI, (160, .inl (fun _ => 0)))), (q5, .inl (cI, (12, .inl g16))), (q6, .inl (cI, (53, .inl g69))), (q7, .inl (cI, (100, .inl (fun _ => 0))))] : va_W) iX7 tyX7_ok nmX7 rfl rfl rfl (by decide) (List.mem_cons_of_mem _ (List.mem_append_right _ wgL_5_20.1)) rfl rfl (tyX7_ok 27 (by decide)) rfl rfl (Nat.le_of_ble_eq_true rfl) dX7_init_452 ?_
  refine k_aload_n C 455 0 dX7_init_455 rfl ?_
  refine k_bipush C 456 18 dX7_init_456 rfl ?_
  refine k_newi C 458 0 18 (List.mem_cons_of_mem _ (List.mem_append_right _ wgL_2_16.1)) rfl (by decide) (by decide +kernel) (by decide) ⟨Nat.le_of_ble_eq_true rfl, Nat.le_of_ble_eq_true rfl⟩ dX7_init_458 (fun q8 => ?_)
  refine k_norm ([(h0, .inr (7, [.ref q1, .ref q2, .int 0, .int 0, .ref q3, .int 0, .int 0, .int 0, .int 0, .int 0, .ref q4, .int 0, .int 0, .int 0, .int 0, .int 0, .int 0, .int 0, .int 0, .ref q5, .ref q6, .int 0, .int 0, .int 0, .int 0, .int 0, .int 0, .ref q7, .null, .int 0, .null, .null, .null, .null, .null, .int 0])), (q1, .inl (cI, (408, .inl (fun _ => 0)))), (q2, .inl (cI, (4, .inl g4))), (q3, .inl (cI, (68, .inl (fun _ => 0)))), (q4, .inl (cI, (160, .inl (fun _ => 0)))), (q5, .inl (cI, (12, .inl g16))), (q6, .inl (cI, (53, .inl g69))), (q7, .inl (cI, (100, .inl (fun _ => 0)))), (q8, .inl (cI, (18, .inl (fun _ => 0))))] : va_W) rfl ?_
  refine k_putF (T := TX7) C hin 460 0 28 tyX7 (.array .int) ([(h0, .inr (7, [.ref q1, .ref q2, .int 0, .int 0, .ref q3, .int 0, .int 0, .int 0, .int 0, .int 0, .ref q4, .int 0, .int 0, .int 0, .int 0, .int 0, .int 0, .int 0, .int 0, .ref q5, .ref q6, .int 0, .int 0, .int 0, .int 0, .int 0, .int 0, .ref q7, .ref q8, .int 0, .null, .null, .null, .null, .null, .int 0])), (q1, .inl (cI, (408, .inl (fun _ => 0)))), (q2, .inl (cI, (4, .inl g4))), (q3, .inl (cI, (68, .inl (fun _ => 0)))), (q4, .inl (cI, (160, .inl (fun _ => 0)))), (q5, .inl (cI, (12, .inl g16))), (q6, .inl (cI, (53, .inl g69))), (q7, .inl (cI, (100, .inl (fun _ => 0)))), (q8, .inl (cI, (18, .inl (fun _ => 0))))] : va_W) iX7 tyX7_ok nmX7 rfl rfl rfl (by decide) (List.mem_cons_of_mem _ (List.mem_append_right _ wgL_5_21.1)) rfl rfl (tyX7_ok 28 (by decide)) rfl rfl (Nat.le_of_ble_eq_true rfl) dX7_init_460 ?_
  refine k_aload_n C 463 0 dX7_init_463 rfl ?_
  refine k_bipush C 464 16 dX7_init_464 rfl ?_
  refine k_newi C 466 0 16 (List.mem_cons_of_mem _ (List.mem_append_right _ wgL_2_16.1)) rfl (by decide) (by decide +kernel) (by decide) ⟨Nat.le_of_ble_eq_true rfl, Nat.le_of_ble_eq_true rfl⟩ dX7_init_466 (fun q9 => ?_)
  refine k_norm ([(h0, .inr (7, [.ref q1, .ref q2, .int 0, .int 0, .ref q3, .int 0, .int 0, .int 0, .int 0, .int 0, .ref q4, .int 0, .int 0, .int 0, .int 0, .int 0, .int 0, .int 0, .int 0, .ref q5, .ref q6, .int 0, .int 0, .int 0, .int 0, .int 0, .int 0, .ref q7, .ref q8, .int 0, .null, .null, .null, .null, .null, .int 0])), (q1, .inl (cI, (408, .inl (fun _ => 0)))), (q2, .inl (cI, (4, .inl g4))), (q3, .inl (cI, (68, .inl (fun _ => 0)))), (q4, .inl (cI, (160, .inl (fun _ => 0)))), (q5, .inl (cI, (12, .inl g16))), (q6, .inl (cI, (53, .inl g69))), (q7, .inl (cI, (100, .inl (fun _ => 0)))), (q8, .inl (cI, (18, .inl (fun _ => 0)))), (q9, .inl (cI, (16, .inl (fun _ => 0))))] : va_W) rfl ?_
  refine k_putF (T := TX7) C hin 468 0 30 tyX7 (.array .int) ([(h0, .inr (7, [.ref q1, .ref q2, .int 0, .int 0, .ref q3, .int 0, .int 0, .int 0, .int 0, .int 0, .ref q4, .int 0, .int 0, .int 0, .int 0, .int 0, .int 0, .int 0, .int 0, .ref q5, .ref q6, .int 0, .int 0, .int 0, .int 0, .int 0, .int 0, .ref q7, .ref q8, .int 0, .ref q9, .null, .null, .null, .null, .int 0])), (q1, .inl (cI, (408, .inl (fun _ => 0)))), (q2, .inl (cI, (4, .inl g4))), (q3, .inl (cI, (68, .inl (fun _ => 0)))), (q4, .inl (cI, (160, .inl (fun _ => 0)))), (q5, .inl (cI, (12, .inl g16))), (q6, .inl (cI, (53, .inl g69))), (q7, .inl (cI, (100, .inl (fun _ => 0)))), (q8, .inl (cI, (18, .inl (fun _ => 0)))), (q9, .inl (cI, (16, .inl (fun _ => 0))))] : va_W) iX7 tyX7_ok nmX7 rfl rfl rfl (by decide) (List.mem_cons_of_mem _ (List.mem_append_right _ wgL_5_22.1)) rfl rfl (tyX7_ok 30 (by decide)) rfl rfl (Nat.le_of_ble_eq_true rfl) dX7_init_468 ?_
  refine k_aload_n C 471 0 dX7_init_471 rfl ?_
  refine k_iconst C 472 2 dX7_init_472 rfl ?_
  refine k_newz C 473 1 2 (List.mem_cons_of_mem _ (List.mem_append_right _ wgL_1_18.1)) rfl (by decide) (by decide +kernel) (by decide) ⟨Nat.le_of_ble_eq_true rfl, Nat.le_of_ble_eq_true rfl⟩ dX7_init_473 (fun q10 => ?_)
  refine k_norm ([(h0, .inr (7, [.ref q1, .ref q2, .int 0, .int 0, .ref q3, .int 0, .int 0, .int 0, .int 0, .int 0, .ref q4, .int 0, .int 0, .int 0, .int 0, .int 0, .int 0, .int 0, .int 0, .ref q5, .ref q6, .int 0, .int 0, .int 0, .int 0, .int 0, .int 0, .ref q7, .ref q8, .int 0, .ref q9, .null, .null, .null, .null, .int 0])), (q1, .inl (cI, (408, .inl (fun _ => 0)))), (q2, .inl (cI, (4, .inl g4))), (q3, .inl (cI, (68, .inl (fun _ => 0)))), (q4, .inl (cI, (160, .inl (fun _ => 0)))), (q5, .inl (cI, (12, .inl g16))), (q6, .inl (cI, (53, .inl g69))), (q7, .inl (cI, (100, .inl (fun _ => 0)))), (q8, .inl (cI, (18, .inl (fun _ => 0)))), (q9, .inl (cI, (16, .inl (fun _ => 0)))), (q10, .inl (cZ, (2, .inl (fun _ => 0))))] : va_W) rfl ?_
  refine k_putF (T := TX7) C hin 475 0 31 tyX7 (.array .boolean) ([(h0, .inr (7, [.ref q1, .ref q2, .int 0, .int 0, .ref q3, .int 0, .int 0, .int 0, .int 0, .int 0, .ref q4, .int 0, .int 0, .int 0, .int 0, .int 0, .int 0, .int 0, .int 0, .ref q5, .ref q6, .int 0, .int 0, .int 0, .int 0, .int 0, .int 0, .ref q7, .ref q8, .int 0, .ref q9, .ref q10, .null, .null, .null, .int 0])), (q1, .inl (cI, (408, .inl (fun _ => 0)))), (q2, .inl (cI, (4, .inl g4))), (q3, .inl (cI, (68, .inl (fun _ => 0)))), (q4, .inl (cI, (160, .inl (fun _ => 0)))), (q5, .inl (cI, (12, .inl g16))), (q6, .inl (cI, (53, .inl g69))), (q7, .inl (cI, (100, .inl (fun _ => 0)))), (q8, .inl (cI, (18, .inl (fun _ => 0)))), (q9, .inl (cI, (16, .inl (fun _ => 0)))), (q10, .inl (cZ, (2, .inl (fun _ => 0))))] : va_W) iX7 tyX7_ok nmX7 rfl rfl rfl (by decide) (List.mem_cons_of_mem _ (List.mem_append_right _ wgL_5_23.1)) rfl rfl (tyX7_ok 31 (by decide)) rfl rfl (Nat.le_of_ble_eq_true rfl) dX7_init_475 ?_
  refine k_aload_n C 478 0 dX7_init_478 rfl ?_
  refine k_iconst C 479 4 dX7_init_479 rfl ?_
  refine k_newi C 480 0 4 (List.mem_cons_of_mem _ (List.mem_append_right _ wgL_2_16.1)) rfl (by decide) (by decide +kernel) (by decide) ⟨Nat.le_of_ble_eq_true rfl, Nat.le_of_ble_eq_true rfl⟩ dX7_init_480 (fun q11 => ?_)
  refine k_norm ([(h0, .inr (7, [.ref q1, .ref q2, .int 0, .int 0, .ref q3, .int 0, .int 0, .int 0, .int 0, .int 0, .ref q4, .int 0, .int 0, .int 0, .int 0, .int 0, .int 0, .int 0, .int 0, .ref q5, .ref q6, .int 0, .int 0, .int 0, .int 0, .int 0, .int 0, .ref q7, .ref q8, .int 0, .ref q9, .ref q10, .null, .null, .null, .int 0])), (q1, .inl (cI, (408, .inl (fun _ => 0)))), (q2, .inl (cI, (4, .inl g4))), (q3, .inl (cI, (68, .inl (fun _ => 0)))), (q4, .inl (cI, (160, .inl (fun _ => 0)))), (q5, .inl (cI, (12, .inl g16))), (q6, .inl (cI, (53, .inl g69))), (q7, .inl (cI, (100, .inl (fun _ => 0)))), (q8, .inl (cI, (18, .inl (fun _ => 0)))), (q9, .inl (cI, (16, .inl (fun _ => 0)))), (q10, .inl (cZ, (2, .inl (fun _ => 0)))), (q11, .inl (cI, (4, .inl (fun _ => 0))))] : va_W) rfl ?_
  refine k_dup C 482 dX7_init_482 rfl ?_
  refine k_iconst C 483 0 dX7_init_483 rfl ?_
  refine k_bipush C 484 (-4) dX7_init_484 rfl ?_
  refine k_iast C 486 11 0 ([(h0, .inr (7, [.ref q1, .ref q2, .int 0, .int 0, .ref q3, .int 0, .int 0, .int 0, .int 0, .int 0, .ref q4, .int 0, .int 0, .int 0, .int 0, .int 0, .int 0, .int 0, .int 0, .ref q5, .ref q6, .int 0, .int 0, .int 0, .int 0, .int 0, .int 0, .ref q7, .ref q8, .int 0, .ref q9, .ref q10, .null, .null, .null, .int 0])), (q1, .inl (cI, (408, .inl (fun _ => 0)))), (q2, .inl (cI, (4, .inl g4))), (q3, .inl (cI, (68, .inl (fun _ => 0)))), (q4, .inl (cI, (160, .inl (fun _ => 0)))), (q5, .inl (cI, (12, .inl g16))), (q6, .inl (cI, (53, .inl g69))), (q7, .inl (cI, (100, .inl (fun _ => 0)))), (q8, .inl (cI, (18, .inl (fun _ => 0)))), (q9, .inl (cI, (16, .inl (fun _ => 0)))), (q10, .inl (cZ, (2, .inl (fun _ => 0)))), (q11, .inl (cI, (4, .inl (upd (fun _ => 0) (Int32.toNatClampNeg 0) (-4)))))] : va_W) rfl rfl (by decide +kernel) rfl dX7_init_486 ?_
  generalize hg70 : upd (fun _ => 0) (Int32.toNatClampNeg 0) (-4) = g70
  refine k_dup C 487 dX7_init_487 rfl ?_
  refine k_iconst C 488 1 dX7_init_488 rfl ?_
  refine k_bipush C 489 (-4) dX7_init_489 rfl ?_
  refine k_iast C 491 11 0 ([(h0, .inr (7, [.ref q1, .ref q2, .int 0, .int 0, .ref q3, .int 0, .int 0, .int 0, .int 0, .int 0, .ref q4, .int 0, .int 0, .int 0, .int 0, .int 0, .int 0, .int 0, .int 0, .ref q5, .ref q6, .int 0, .int 0, .int 0, .int 0, .int 0, .int 0, .ref q7, .ref q8, .int 0, .ref q9, .ref q10, .null, .null, .null, .int 0])), (q1, .inl (cI, (408, .inl (fun _ => 0)))), (q2, .inl (cI, (4, .inl g4))), (q3, .inl (cI, (68, .inl (fun _ => 0)))), (q4, .inl (cI, (160, .inl (fun _ => 0)))), (q5, .inl (cI, (12, .inl g16))), (q6, .inl (cI, (53, .inl g69))), (q7, .inl (cI, (100, .inl (fun _ => 0)))), (q8, .inl (cI, (18, .inl (fun _ => 0)))), (q9, .inl (cI, (16, .inl (fun _ => 0)))), (q10, .inl (cZ, (2, .inl (fun _ => 0)))), (q11, .inl (cI, (4, .inl (upd g70 (Int32.toNatClampNeg 1) (-4)))))] : va_W) rfl rfl (by decide +kernel) rfl dX7_init_491 ?_
  generalize hg71 : upd g70 (Int32.toNatClampNeg 1) (-4) = g71
  refine k_dup C 492 dX7_init_492 rfl ?_
  refine k_iconst C 493 2 dX7_init_493 rfl ?_
  refine k_bipush C 494 (-4) dX7_init_494 rfl ?_
  refine k_iast C 496 11 0 ([(h0, .inr (7, [.ref q1, .ref q2, .int 0, .int 0, .ref q3, .int 0, .int 0, .int 0, .int 0, .int 0, .ref q4, .int 0, .int 0, .int 0, .int 0, .int 0, .int 0, .int 0, .int 0, .ref q5, .ref q6, .int 0, .int 0, .int 0, .int 0, .int 0, .int 0, .ref q7, .ref q8, .int 0, .ref q9, .ref q10, .null, .null, .null, .int 0])), (q1, .inl (cI, (408, .inl (fun _ => 0)))), (q2, .inl (cI, (4, .inl g4))), (q3, .inl (cI, (68, .inl (fun _ => 0)))), (q4, .inl (cI, (160, .inl (fun _ => 0)))), (q5, .inl (cI, (12, .inl g16))), (q6, .inl (cI, (53, .inl g69))), (q7, .inl (cI, (100, .inl (fun _ => 0)))), (q8, .inl (cI, (18, .inl (fun _ => 0)))), (q9, .inl (cI, (16, .inl (fun _ => 0)))), (q10, .inl (cZ, (2, .inl (fun _ => 0)))), (q11, .inl (cI, (4, .inl (upd g71 (Int32.toNatClampNeg 2) (-4)))))] : va_W) rfl rfl (by decide +kernel) rfl dX7_init_496 ?_
  generalize hg72 : upd g71 (Int32.toNatClampNeg 2) (-4) = g72
  refine k_dup C 497 dX7_init_497 rfl ?_
  refine k_iconst C 498 3 dX7_init_498 rfl ?_
  refine k_bipush C 499 (-4) dX7_init_499 rfl ?_
  refine k_iast C 501 11 0 ([(h0, .inr (7, [.ref q1, .ref q2, .int 0, .int 0, .ref q3, .int 0, .int 0, .int 0, .int 0, .int 0, .ref q4, .int 0, .int 0, .int 0, .int 0, .int 0, .int 0, .int 0, .int 0, .ref q5, .ref q6, .int 0, .int 0, .int 0, .int 0, .int 0, .int 0, .ref q7, .ref q8, .int 0, .ref q9, .ref q10, .null, .null, .null, .int 0])), (q1, .inl (cI, (408, .inl (fun _ => 0)))), (q2, .inl (cI, (4, .inl g4))), (q3, .inl (cI, (68, .inl (fun _ => 0)))), (q4, .inl (cI, (160, .inl (fun _ => 0)))), (q5, .inl (cI, (12, .inl g16))), (q6, .inl (cI, (53, .inl g69))), (q7, .inl (cI, (100, .inl (fun _ => 0)))), (q8, .inl (cI, (18, .inl (fun _ => 0)))), (q9, .inl (cI, (16, .inl (fun _ => 0)))), (q10, .inl (cZ, (2, .inl (fun _ => 0)))), (q11, .inl (cI, (4, .inl (upd g72 (Int32.toNatClampNeg 3) (-4)))))] : va_W) rfl rfl (by decide +kernel) rfl dX7_init_501 ?_
  generalize hg73 : upd g72 (Int32.toNatClampNeg 3) (-4) = g73
  refine k_putF (T := TX7) C hin 502 0 32 tyX7 (.array .int) ([(h0, .inr (7, [.ref q1, .ref q2, .int 0, .int 0, .ref q3, .int 0, .int 0, .int 0, .int 0, .int 0, .ref q4, .int 0, .int 0, .int 0, .int 0, .int 0, .int 0, .int 0, .int 0, .ref q5, .ref q6, .int 0, .int 0, .int 0, .int 0, .int 0, .int 0, .ref q7, .ref q8, .int 0, .ref q9, .ref q10, .ref q11, .null, .null, .int 0])), (q1, .inl (cI, (408, .inl (fun _ => 0)))), (q2, .inl (cI, (4, .inl g4))), (q3, .inl (cI, (68, .inl (fun _ => 0)))), (q4, .inl (cI, (160, .inl (fun _ => 0)))), (q5, .inl (cI, (12, .inl g16))), (q6, .inl (cI, (53, .inl g69))), (q7, .inl (cI, (100, .inl (fun _ => 0)))), (q8, .inl (cI, (18, .inl (fun _ => 0)))), (q9, .inl (cI, (16, .inl (fun _ => 0)))), (q10, .inl (cZ, (2, .inl (fun _ => 0)))), (q11, .inl (cI, (4, .inl g73)))] : va_W) iX7 tyX7_ok nmX7 rfl rfl rfl (by decide) (List.mem_cons_of_mem _ (List.mem_append_right _ wgL_6_0.1)) rfl rfl (tyX7_ok 32 (by decide)) rfl rfl (Nat.le_of_ble_eq_true rfl) dX7_init_502 ?_
  refine k_aload_n C 505 0 dX7_init_505 rfl ?_
  refine k_iconst C 506 4 dX7_init_506 rfl ?_
  refine k_newi C 507 0 4 (List.mem_cons_of_mem _ (List.mem_append_right _ wgL_2_16.1)) rfl (by decide) (by decide +kernel) (by decide) ⟨Nat.le_of_ble_eq_true rfl, Nat.le_of_ble_eq_true rfl⟩ dX7_init_507 (fun q12 => ?_)
  refine k_norm ([(h0, .inr (7, [.ref q1, .ref q2, .int 0, .int 0, .ref q3, .int 0, .int 0, .int 0, .int 0, .int 0, .ref q4, .int 0, .int 0, .int 0, .int 0, .int 0, .int 0, .int 0, .int 0, .ref q5, .ref q6, .int 0, .int 0, .int 0, .int 0, .int 0, .int 0, .ref q7, .ref q8, .int 0, .ref q9, .ref q10, .ref q11, .null, .null, .int 0])), (q1, .inl (cI, (408, .inl (fun _ => 0)))), (q2, .inl (cI, (4, .inl g4))), (q3, .inl (cI, (68, .inl (fun _ => 0)))), (q4, .inl (cI, (160, .inl (fun _ => 0)))), (q5, .inl (cI, (12, .inl g16))), (q6, .inl (cI, (53, .inl g69))), (q7, .inl (cI, (100, .inl (fun _ => 0)))), (q8, .inl (cI, (18, .inl (fun _ => 0)))), (q9, .inl (cI, (16, .inl (fun _ => 0)))), (q10, .inl (cZ, (2, .inl (fun _ => 0)))), (q11, .inl (cI, (4, .inl g73))), (q12, .inl (cI, (4, .inl (fun _ => 0))))] : va_W) rfl ?_
  refine k_putF (T := TX7) C hin 509 0 33 tyX7 (.array .int) ([(h0, .inr (7, [.ref q1, .ref q2, .int 0, .int 0, .ref q3, .int 0, .int 0, .int 0, .int 0, .int 0, .ref q4, .int 0, .int 0, .int 0, .int 0, .int 0, .int 0, .int 0, .int 0, .ref q5, .ref q6, .int 0, .int 0, .int 0, .int 0, .int 0, .int 0, .ref q7, .ref q8, .int 0, .ref q9, .ref q10, .ref q11, .ref q12, .null, .int 0])), (q1, .inl (cI, (408, .inl (fun _ => 0)))), (q2, .inl (cI, (4, .inl g4))), (q3, .inl (cI, (68, .inl (fun _ => 0)))), (q4, .inl (cI, (160, .inl (fun _ => 0)))), (q5, .inl (cI, (12, .inl g16))), (q6, .inl (cI, (53, .inl g69))), (q7, .inl (cI, (100, .inl (fun _ => 0)))), (q8, .inl (cI, (18, .inl (fun _ => 0)))), (q9, .inl (cI, (16, .inl (fun _ => 0)))), (q10, .inl (cZ, (2, .inl (fun _ => 0)))), (q11, .inl (cI, (4, .inl g73))), (q12, .inl (cI, (4, .inl (fun _ => 0))))] : va_W) iX7 tyX7_ok nmX7 rfl rfl rfl (by decide) (List.mem_cons_of_mem _ (List.mem_append_right _ wgL_6_1.1)) rfl rfl (tyX7_ok 33 (by decide)) rfl rfl (Nat.le_of_ble_eq_true rfl) dX7_init_509 ?_
  refine k_aload_n C 512 0 dX7_init_512 rfl ?_
  refine k_sipush C 513 160 dX7_init_513 rfl ?_
  refine k_newi C 516 0 160 (List.mem_cons_of_mem _ (List.mem_append_right _ wgL_2_16.1)) rfl (by decide) (by decide +kernel) (by decide) ⟨Nat.le_of_ble_eq_true rfl, Nat.le_of_ble_eq_true rfl⟩ dX7_init_516 (fun q13 => ?_)
  refine k_norm ([(h0, .inr (7, [.ref q1, .ref q2, .int 0, .int 0, .ref q3, .int 0, .int 0, .int 0, .int 0, .int 0, .ref q4, .int 0, .int 0, .int 0, .int 0, .int 0, .int 0, .int 0, .int 0, .ref q5, .ref q6, .int 0, .int 0, .int 0, .int 0, .int 0, .int 0, .ref q7, .ref q8, .int 0, .ref q9, .ref q10, .ref q11, .ref q12, .null, .int 0])), (q1, .inl (cI, (408, .inl (fun _ => 0)))), (q2, .inl (cI, (4, .inl g4))), (q3, .inl (cI, (68, .inl (fun _ => 0)))), (q4, .inl (cI, (160, .inl (fun _ => 0)))), (q5, .inl (cI, (12, .inl g16))), (q6, .inl (cI, (53, .inl g69))), (q7, .inl (cI, (100, .inl (fun _ => 0)))), (q8, .inl (cI, (18, .inl (fun _ => 0)))), (q9, .inl (cI, (16, .inl (fun _ => 0)))), (q10, .inl (cZ, (2, .inl (fun _ => 0)))), (q11, .inl (cI, (4, .inl g73))), (q12, .inl (cI, (4, .inl (fun _ => 0)))), (q13, .inl (cI, (160, .inl (fun _ => 0))))] : va_W) rfl ?_
  refine k_putF (T := TX7) C hin 518 0 34 tyX7 (.array .int) ([(h0, .inr (7, [.ref q1, .ref q2, .int 0, .int 0, .ref q3, .int 0, .int 0, .int 0, .int 0, .int 0, .ref q4, .int 0, .int 0, .int 0, .int 0, .int 0, .int 0, .int 0, .int 0, .ref q5, .ref q6, .int 0, .int 0, .int 0, .int 0, .int 0, .int 0, .ref q7, .ref q8, .int 0, .ref q9, .ref q10, .ref q11, .ref q12, .ref q13, .int 0])), (q1, .inl (cI, (408, .inl (fun _ => 0)))), (q2, .inl (cI, (4, .inl g4))), (q3, .inl (cI, (68, .inl (fun _ => 0)))), (q4, .inl (cI, (160, .inl (fun _ => 0)))), (q5, .inl (cI, (12, .inl g16))), (q6, .inl (cI, (53, .inl g69))), (q7, .inl (cI, (100, .inl (fun _ => 0)))), (q8, .inl (cI, (18, .inl (fun _ => 0)))), (q9, .inl (cI, (16, .inl (fun _ => 0)))), (q10, .inl (cZ, (2, .inl (fun _ => 0)))), (q11, .inl (cI, (4, .inl g73))), (q12, .inl (cI, (4, .inl (fun _ => 0)))), (q13, .inl (cI, (160, .inl (fun _ => 0))))] : va_W) iX7 tyX7_ok nmX7 rfl rfl rfl (by decide) (List.mem_cons_of_mem _ (List.mem_append_right _ wgL_6_2.1)) rfl rfl (tyX7_ok 34 (by decide)) rfl rfl (Nat.le_of_ble_eq_true rfl) dX7_init_518 ?_
  subst hg73
  subst hg72
  subst hg71
  subst hg70
  subst hg69
  subst hg68
  subst hg67
  subst hg66
  subst hg65
  subst hg64
  subst hg63
  subst hg62
  subst hg61
  subst hg60
  subst hg59
  subst hg58
  subst hg57
  subst hg56
  subst hg55
  subst hg54
  subst hg53
  subst hg52
  subst hg51
  subst hg50
  subst hg49
  subst hg48
  subst hg47
  subst hg46
  subst hg45
  subst hg44
  subst hg43
  subst hg42
  subst hg41
  subst hg40
  subst hg39
  subst hg38
  subst hg37
  subst hg36
  subst hg35
  subst hg34
  subst hg33
  subst hg32
  subst hg31
  subst hg30
  subst hg29
  subst hg28
  subst hg27
  subst hg26
  subst hg25
  subst hg24
  subst hg23
  subst hg22
  subst hg21
  subst hg20
  subst hg19
  subst hg18
  subst hg17
  subst hg16
  subst hg15
  subst hg14
  subst hg13
  subst hg12
  subst hg11
  subst hg10
  subst hg9
  subst hg8
  subst hg7
  subst hg6
  subst hg5
  subst hg4
  subst hg3
  subst hg2
  subst hg1
  exact k_vret (W0 := (fun h0 q => wM (adM h0 q) cI cZ u0M)) C 521 (fun i => ([h0, q1, q2, q3, q4, q5, q6, q7, q8, q9, q11, q12, q13, q10] : List Nat).getD i 0) [0, 1, 2, 3, 4, 5, 6, 7, 8, 9, 11, 12, 13, 10] dX7_init_521 (permM cI cZ h0 q1 q2 q3 q4 q5 q6 q7 q8 q9 q10 q11 q12 q13) (by decide +kernel) (by decide +kernel) (by decide +kernel)
end
