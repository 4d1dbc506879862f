def pX7_hand (F : Nat) (p1 : Int32) (p2 : Int32) (p3 : Int32) (u : St) : Option (Int32 × St) :=
  bd (pX7_leastOf F p1 p2 p3 16 9 u) (fun (r2 : Int32) (u1 : St) => some (r2, u1))
set_option maxRecDepth 100000 in
set_option maxHeartbeats 4000000 in
theorem tX7_hand {l : Launch} {D : va_G} {cI cZ : ClassId} {ad : Nat → Nat} (F : Nat) (p1 : Int32) (p2 : Int32) (p3 : Int32) (u : St) : CtI l D [(cI, .int), (cZ, .boolean)] (wM ad cI cZ) E0 yX7_hand wsX7_hand ({ frames := 6, cells := 0, slots := 0, locals := 148 } : Room) [.ref (ad 0), .int p1, .int p2, .int p3] u (pX7_hand F p1 p2 p3 u) := by
  refine ctI_of (own := RX7) (cc := cX7_hand) (n := 4) (ret := (some .int)) (by decide) rfl rfl (Nat.le_of_ble_eq_true rfl) (lv := [(0, .ref (ad 0)), (1, .int p1), (2, .int p2), (3, .int p3)]) rfl (fun C => ?_)
  rw [pX7_hand]
  refine g_aload_n C 0 0 dX7_hand_0 rfl ?_
  refine g_iload_n C 1 1 dX7_hand_1 rfl ?_
  refine g_iload_n C 2 2 dX7_hand_2 rfl ?_
  refine g_iload_n C 3 3 dX7_hand_3 rfl ?_
  refine g_bipush C 4 16 dX7_hand_4 rfl ?_
  refine g_bipush C 6 9 dX7_hand_6 rfl ?_
  refine g_callVi (st := []) (As := [.int p1, .int p2, .int p3, .int 16, .int 9]) C E0_ok E0_vm 8 0 5 (tX7_leastOf F p1 p2 p3 16 9 u) rfl gX7_hand_X7_leastOf rfl rfl rfl (by decide +kernel) ⟨Nat.le_of_ble_eq_true rfl, Nat.le_of_ble_eq_true rfl⟩ rfl rfl rfl (Nat.le_of_ble_eq_true rfl) dX7_hand_8 (fun r2 u1 => ?_)
  exact g_iret C 11 dX7_hand_11
def jX7_turn_91 (F : Nat)  (a7 : Int32) (u8 : St) : Option (Int32 × St) :=
  vl (stf u8 17 0) (fun (u9 : St) => some (a7, u9))
def bX7_turn_39 (F : Nat) (p1 : Int32) (p2 : Int32) (p3 : Int32) (r6 : Int32) (J91 : Int32 → St → Option (Int32 × St)) (self13 : Int32 → Int32 → St → Option (Int32 × St)) (x10 : Int32) (x11 : Int32) (u12 : St) : Option (Int32 × St) :=
  if 20 < x11 then (J91 x10 u12) else if x10 = (-4) then vl (stf u12 16 x11) (fun (u14 : St) => vl (stf u14 17 p3) (fun (u15 : St) => bd (pX7_tries F 0 p1 p2 u15) (fun (r17 : Int32) (u16 : St) => jn (fun (a18 : Int32) (u19 : St) => (self13 a18 (x11 + 1) u19)) (fun (J83 : Int32 → St → Option (Int32 × St)) => if r17 = r6 then (J83 (-4) u16) else (J83 x11 u16))))) else (J91 x10 u12)
def pX7_turn (F : Nat) (p1 : Int32) (p2 : Int32) (p3 : Int32) (u : St) : Option (Int32 × St) :=
  bd (pX7_isHeard F p1 p2 u) (fun (r2 : Int32) (u1 : St) => if r2 = 0 then some ((-1), u1) else bd (pX7_in F (Int32.toInt64 p3) 1 9 u1) (fun (r4 : Int32) (u3 : St) => if r4 = 0 then some ((-1), u3) else bd (pX7_tries F 0 p1 p2 u3) (fun (r6 : Int32) (u5 : St) => jn (jX7_turn_91 F) (fun (J91 : Int32 → St → Option (Int32 × St)) => (lq2 (bX7_turn_39 F p1 p2 p3 r6 J91) F (-4) 0 u5)))))
set_option maxRecDepth 100000 in
set_option maxHeartbeats 4000000 in
theorem tX7_turn {l : Launch} {D : va_G} {cI cZ : ClassId} {ad : Nat → Nat} (F : Nat) (p1 : Int32) (p2 : Int32) (p3 : Int32) (u : St) : CtI l D [(cI, .int), (cZ, .boolean)] (wM ad cI cZ) E0 yX7_turn wsX7_turn ({ frames := 4, cells := 0, slots := 0, locals := 98 } : Room) [.ref (ad 0), .int p1, .int p2, .int p3] u (pX7_turn F p1 p2 p3 u) := by
  refine ctI_of (own := RX7) (cc := cX7_turn) (n := 7) (ret := (some .int)) (by decide) rfl rfl (Nat.le_of_ble_eq_true rfl) (lv := [(0, .ref (ad 0)), (1, .int p1), (2, .int p2), (3, .int p3)]) rfl (fun C => ?_)
  have iX7 : ∀ w ∈ wsX70, w ∈ wsX7_turn := fun w h => List.mem_cons_of_mem _ (List.mem_append_right _ (inlX7 w h))
  rw [pX7_turn]
  refine g_aload_n C 0 0 dX7_turn_0 rfl ?_
  refine g_iload_n C 1 1 dX7_turn_1 rfl ?_
  refine g_iload_n C 2 2 dX7_turn_2 rfl ?_
  refine g_callVi (st := []) (As := [.int p1, .int p2]) C E0_ok E0_vm 3 0 2 (tX7_isHeard F p1 p2 u) rfl gX7_turn_X7_isHeard rfl rfl rfl (by decide +kernel) ⟨Nat.le_of_ble_eq_true rfl, Nat.le_of_ble_eq_true rfl⟩ rfl rfl rfl (Nat.le_of_ble_eq_true rfl) dX7_turn_3 (fun r2 u1 => ?_)
  refine g_if_eq C 6 21 dX7_turn_6 (by decide) ?_ ?_
  · skip
    refine g_iconst C 21 (-1) dX7_turn_21 rfl ?_
    exact g_iret C 22 dX7_turn_22
  · skip
    refine g_iload_n C 9 3 dX7_turn_9 rfl ?_
    refine g_i2l C 10 dX7_turn_10 ?_
    refine g_lconst C 11 1 dX7_turn_11 rfl ?_
    refine g_ldc2 C 12 9 (by decide +kernel) dX7_turn_12 ?_
    refine g_callSi (st := []) (As := [.long (Int32.toInt64 p3), .long 1, .long 9]) C E0_ok E0_vm 15 3 (tX7_in F (Int32.toInt64 p3) 1 9 u1) rfl gX7_turn_X7_in rfl rfl rfl (by decide +kernel) ⟨Nat.le_of_ble_eq_true rfl, Nat.le_of_ble_eq_true rfl⟩ rfl (Nat.le_of_ble_eq_true rfl) dX7_turn_15 (fun r4 u3 => ?_)
    refine g_if_ne C 18 23 dX7_turn_18 (by decide) ?_ ?_
    · skip
      refine g_aload_n C 23 0 dX7_turn_23 rfl ?_
      refine g_iconst C 24 0 dX7_turn_24 rfl ?_
      refine g_iload_n C 25 1 dX7_turn_25 rfl ?_
      refine g_iload_n C 26 2 dX7_turn_26 rfl ?_
      refine g_callVi (st := []) (As := [.int 0, .int p1, .int p2]) C E0_ok E0_vm 27 0 3 (tX7_tries F 0 p1 p2 u3) rfl gX7_turn_X7_tries rfl rfl rfl (by decide +kernel) ⟨Nat.le_of_ble_eq_true rfl, Nat.le_of_ble_eq_true rfl⟩ rfl rfl rfl (Nat.le_of_ble_eq_true rfl) dX7_turn_27 (fun r6 u5 => ?_)
      refine g_istore C 30 [(4, .int r6), (0, .ref (ad 0)), (1, .int p1), (2, .int p2), (3, .int p3)] dX7_turn_30 (by decide) rfl ?_
      refine g_bipush C 32 (-4) dX7_turn_32 rfl ?_
      refine g_istore C 34 [(5, .int (-4)), (4, .int r6), (0, .ref (ad 0)), (1, .int p1), (2, .int p2), (3, .int p3)] dX7_turn_34 (by decide) rfl ?_
      refine g_iconst C 36 0 dX7_turn_36 rfl ?_
      refine g_istore C 37 [(6, .int 0), (5, .int (-4)), (4, .int r6), (0, .ref (ad 0)), (1, .int p1), (2, .int p2), (3, .int p3)] dX7_turn_37 (by decide) rfl ?_
      refine g_jn1 91 (fun (a7 : Int32) => [(0, .ref (ad 0)), (5, .int a7)]) (fun (a7 : Int32) => []) (fun a7 u8 => ?_) (fun J91 hJ91 => ?_)
      · skip
        rw [jX7_turn_91]
        refine g_aload_n C 91 0 dX7_turn_91 rfl ?_
        refine g_iconst C 92 0 dX7_turn_92 rfl ?_
        refine pfM_X7_moreStrength C 93 iX7 (List.mem_cons_of_mem _ (List.mem_append_right _ wgL_28_1.1)) dX7_turn_93 (fun u9 => ?_)
        refine g_iload C 96 1 dX7_turn_96 rfl ?_
        exact g_iret C 98 dX7_turn_98
      · skip
        refine g_sub _ [3, 4, 5, 6, 2, 1, 0] rfl ?_
        refine g_lq2 (fun (x10 : Int32) (x11 : Int32) => [(0, .ref (ad 0)), (1, .int p1), (2, .int p2), (3, .int p3), (4, .int r6), (5, .int x10), (6, .int x11)]) (fun self13 hself13 x10 x11 u12 => ?_) F (-4) 0 u5
        rw [bX7_turn_39]
        refine g_iload C 39 6 dX7_turn_39 rfl ?_
        refine g_bipush C 41 20 dX7_turn_41 rfl ?_
        refine g_icmp_gt C 43 91 dX7_turn_43 (by decide) ?_ ?_
        · skip
          exact g_sub _ [0, 5] rfl (hJ91 x10 u12)
        · skip
          refine g_iload C 46 5 dX7_turn_46 rfl ?_
          refine g_bipush C 48 (-4) dX7_turn_48 rfl ?_
          refine g_icmp_ne C 50 91 dX7_turn_50 (by decide) ?_ ?_
          · skip
            exact g_sub _ [0, 5] rfl (hJ91 x10 u12)
          · skip
            refine g_aload_n C 53 0 dX7_turn_53 rfl ?_
            refine g_iload C 54 6 dX7_turn_54 rfl ?_
            refine pfM_X7_moreMinute C 56 iX7 (List.mem_cons_of_mem _ (List.mem_append_right _ wgL_28_2.1)) dX7_turn_56 (fun u14 => ?_)
            refine g_aload_n C 59 0 dX7_turn_59 rfl ?_
            refine g_iload_n C 60 3 dX7_turn_60 rfl ?_
            refine pfM_X7_moreStrength C 61 iX7 (List.mem_cons_of_mem _ (List.mem_append_right _ wgL_28_1.1)) dX7_turn_61 (fun u15 => ?_)
            refine g_aload_n C 64 0 dX7_turn_64 rfl ?_
            refine g_iconst C 65 0 dX7_turn_65 rfl ?_
            refine g_iload_n C 66 1 dX7_turn_66 rfl ?_
            refine g_iload_n C 67 2 dX7_turn_67 rfl ?_
            refine g_callVi (st := []) (As := [.int 0, .int p1, .int p2]) C E0_ok E0_vm 68 0 3 (tX7_tries F 0 p1 p2 u15) rfl gX7_turn_X7_tries rfl rfl rfl (by decide +kernel) ⟨Nat.le_of_ble_eq_true rfl, Nat.le_of_ble_eq_true rfl⟩ rfl rfl rfl (Nat.le_of_ble_eq_true rfl) dX7_turn_68 (fun r17 u16 => ?_)
            refine g_iload C 71 4 dX7_turn_71 rfl ?_
            refine g_jn1 83 (fun (a18 : Int32) => [(0, .ref (ad 0)), (1, .int p1), (2, .int p2), (3, .int p3), (4, .int r6), (6, .int x11)]) (fun (a18 : Int32) => [.int a18]) (fun a18 u19 => ?_) (fun J83 hJ83 => ?_)
            · skip
              refine g_istore C 83 [(5, .int a18), (0, .ref (ad 0)), (1, .int p1), (2, .int p2), (3, .int p3), (4, .int r6), (6, .int x11)] dX7_turn_83 (by decide) rfl ?_
              refine g_iinc C 85 6 [(6, .int (x11 + 1)), (5, .int a18), (0, .ref (ad 0)), (1, .int p1), (2, .int p2), (3, .int p3), (4, .int r6)] dX7_turn_85 rfl rfl (by decide) rfl ?_
              refine g_goto C 88 39 dX7_turn_88 (by decide) ?_
              exact g_sub _ [2, 3, 4, 5, 6, 1, 0] rfl (hself13 a18 (x11 + 1) u19)
            · skip
              refine g_icmp_eq C 73 81 dX7_turn_73 (by decide) ?_ ?_
              · skip
                refine g_bipush C 81 (-4) dX7_turn_81 rfl ?_
                exact g_sub _ [0, 1, 2, 3, 4, 6] rfl (hJ83 (-4) u16)
              · skip
                refine g_iload C 76 6 dX7_turn_76 rfl ?_
                refine g_goto C 78 83 dX7_turn_78 (by decide) ?_
                exact g_sub _ [0, 1, 2, 3, 4, 6] rfl (hJ83 x11 u16)
    · skip
      refine g_iconst C 21 (-1) dX7_turn_21 rfl ?_
      exact g_iret C 22 dX7_turn_22
def pX7_byGuards (F : Nat) (p1 : Int32) (p2 : Int32) (p3 : Int32) (p4 : Int32) (u : St) : Option (Int32 × St) :=
  bd (pX7_copies F 0 340 u) (fun (_ : Unit) (u1 : St) => gd (inb (356 + (2 * p1)) 408) (vl (sta u1 0 (356 + (2 * p1)) p3) (fun (u2 : St) => gd (inb ((356 + (2 * p1)) + 1) 408) (vl (sta u2 0 ((356 + (2 * p1)) + 1) p4) (fun (u3 : St) => bd (pX7_tries F 340 p1 p2 u3) (fun (r5 : Int32) (u4 : St) => some (r5, u4)))))))
set_option maxRecDepth 100000 in
set_option maxHeartbeats 4000000 in
theorem tX7_byGuards {l : Launch} {D : va_G} {cI cZ : ClassId} {ad : Nat → Nat} (F : Nat) (p1 : Int32) (p2 : Int32) (p3 : Int32) (p4 : Int32) (u : St) : CtI l D [(cI, .int), (cZ, .boolean)] (wM ad cI cZ) E0 yX7_byGuards wsX7_byGuards ({ frames := 4, cells := 0, slots := 0, locals := 98 } : Room) [.ref (ad 0), .int p1, .int p2, .int p3, .int p4] u (pX7_byGuards F p1 p2 p3 p4 u) := by
  refine ctI_of (own := RX7) (cc := cX7_byGuards) (n := 5) (ret := (some .int)) (by decide) rfl rfl (Nat.le_of_ble_eq_true rfl) (lv := [(0, .ref (ad 0)), (1, .int p1), (2, .int p2), (3, .int p3), (4, .int p4)]) rfl (fun C => ?_)
  have iX7 : ∀ w ∈ wsX70, w ∈ wsX7_byGuards := fun w h => List.mem_cons_of_mem _ (List.mem_append_right _ (inlX7 w h))
  rw [pX7_byGuards]
  refine g_aload_n C 0 0 dX7_byGuards_0 rfl ?_
  refine g_iconst C 1 0 dX7_byGuards_1 rfl ?_
  refine g_sipush C 2 340 dX7_byGuards_2 rfl ?_
  refine g_callVv (st := []) (As := [.int 0, .int 340]) C E0_ok E0_vm 5 0 2 (tX7_copies F 0 340 u) rfl gX7_byGuards_X7_copies rfl rfl rfl (by decide +kernel) ⟨Nat.le_of_ble_eq_true rfl, Nat.le_of_ble_eq_true rfl⟩ rfl rfl rfl (Nat.le_of_ble_eq_true rfl) dX7_byGuards_5 (fun u1 => ?_)
  refine g_aload_n C 8 0 dX7_byGuards_8 rfl ?_
  refine gfM_X7_state C 9 iX7 (List.mem_cons_of_mem _ (List.mem_append_right _ wgL_5_14.1)) dX7_byGuards_9 ?_
  refine g_sipush C 12 356 dX7_byGuards_12 rfl ?_
  refine g_iconst C 15 2 dX7_byGuards_15 rfl ?_
  refine g_iload_n C 16 1 dX7_byGuards_16 rfl ?_
  refine g_imul C 17 dX7_byGuards_17 ?_
  refine g_iadd C 18 dX7_byGuards_18 ?_
  refine g_iload_n C 19 3 dX7_byGuards_19 rfl ?_
  refine g_iast C 20 (1 + 0) 0 0 (wM_arr 0 (by decide)) (wM_aset 0 (by decide)) rfl dX7_byGuards_20 (fun u2 => ?_)
  refine g_aload_n C 21 0 dX7_byGuards_21 rfl ?_
  refine gfM_X7_state C 22 iX7 (List.mem_cons_of_mem _ (List.mem_append_right _ wgL_5_14.1)) dX7_byGuards_22 ?_
  refine g_sipush C 25 356 dX7_byGuards_25 rfl ?_
  refine g_iconst C 28 2 dX7_byGuards_28 rfl ?_
  refine g_iload_n C 29 1 dX7_byGuards_29 rfl ?_
  refine g_imul C 30 dX7_byGuards_30 ?_
  refine g_iadd C 31 dX7_byGuards_31 ?_
  refine g_iconst C 32 1 dX7_byGuards_32 rfl ?_
  refine g_iadd C 33 dX7_byGuards_33 ?_
  refine g_iload C 34 4 dX7_byGuards_34 rfl ?_
  refine g_iast C 36 (1 + 0) 0 0 (wM_arr 0 (by decide)) (wM_aset 0 (by decide)) rfl dX7_byGuards_36 (fun u3 => ?_)
  refine g_aload_n C 37 0 dX7_byGuards_37 rfl ?_
  refine g_sipush C 38 340 dX7_byGuards_38 rfl ?_
  refine g_iload_n C 41 1 dX7_byGuards_41 rfl ?_
  refine g_iload_n C 42 2 dX7_byGuards_42 rfl ?_
  refine g_callVi (st := []) (As := [.int 340, .int p1, .int p2]) C E0_ok E0_vm 43 0 3 (tX7_tries F 340 p1 p2 u3) rfl gX7_byGuards_X7_tries rfl rfl rfl (by decide +kernel) ⟨Nat.le_of_ble_eq_true rfl, Nat.le_of_ble_eq_true rfl⟩ rfl rfl rfl (Nat.le_of_ble_eq_true rfl) dX7_byGuards_43 (fun r5 u4 => ?_)
  exact g_iret C 46 dX7_byGuards_46
def jX7_sure_93 (F : Nat) (x5 : Int32) (self7 : Int32 → St → Option (Int32 × St)) (a8 : Int32) (u9 : St) : Option (Int32 × St) :=
  if a8 = 0 then (self7 (x5 + 1) u9) else some (x5, u9)
def bX7_sure_34 (F : Nat) (p1 : Int32) (p2 : Int32) (p3 : Int32) (x5 : Int32) (J93 : Int32 → St → Option (Int32 × St)) (self13 : Int32 → Int32 → St → Option (Int32 × St)) (x10 : Int32) (x11 : Int32) (u12 : St) : Option (Int32 × St) :=
  if 9 < x11 then (J93 x10 u12) else jn (fun (a14 : Int32) (u15 : St) => (self13 a14 (x11 + 1) u15)) (fun (J85 : Int32 → St → Option (Int32 × St)) => jn (fun (u16 : St) => (J85 0 u16)) (fun (J84 : St → Option (Int32 × St)) => if x10 = 0 then (J84 u12) else jn (fun (a17 : Int32) (u18 : St) => jn (fun (a19 : Int32) (u20 : St) => bd (pX7_byGuards F p1 p3 a17 a19 u20) (fun (r22 : Int32) (u21 : St) => if r22 = (p2 + 1) then (J85 1 u21) else (J84 u21))) (fun (J71 : Int32 → St → Option (Int32 × St)) => if p2 = 0 then (J71 x11 u18) else (J71 x5 u18))) (fun (J60 : Int32 → St → Option (Int32 × St)) => if p2 = 0 then (J60 x5 u12) else (J60 x11 u12))))
def bX7_sure_21 (F : Nat) (p1 : Int32) (p2 : Int32) (p3 : Int32) (self7 : Int32 → St → Option (Int32 × St)) (x5 : Int32) (u6 : St) : Option (Int32 × St) :=
  if 9 < x5 then some ((-4), u6) else jn (jX7_sure_93 F x5 self7) (fun (J93 : Int32 → St → Option (Int32 × St)) => (lq2 (bX7_sure_34 F p1 p2 p3 x5 J93) F 1 0 u6))
def pX7_sure (F : Nat) (p1 : Int32) (p2 : Int32) (p3 : Int32) (u : St) : Option (Int32 × St) :=
  bd (pX7_isHeard F p1 p3 u) (fun (r2 : Int32) (u1 : St) => if r2 = 0 then some ((-1), u1) else bd (pX7_isSide F p2 u1) (fun (r4 : Int32) (u3 : St) => if r4 = 0 then some ((-1), u3) else (lq1 (bX7_sure_21 F p1 p2 p3) F 0 u3)))
set_option maxRecDepth 100000 in
set_option maxHeartbeats 4000000 in
theorem tX7_sure {l : Launch} {D : va_G} {cI cZ : ClassId} {ad : Nat → Nat} (F : Nat) (p1 : Int32) (p2 : Int32) (p3 : Int32) (u : St) : CtI l D [(cI, .int), (cZ, .boolean)] (wM ad cI cZ) E0 yX7_sure wsX7_sure ({ frames := 5, cells := 0, slots := 0, locals := 122 } : Room) [.ref (ad 0), .int p1, .int p2, .int p3] u (pX7_sure F p1 p2 p3 u) := by
  refine ctI_of (own := RX7) (cc := cX7_sure) (n := 7) (ret := (some .int)) (by decide) rfl rfl (Nat.le_of_ble_eq_true rfl) (lv := [(0, .ref (ad 0)), (1, .int p1), (2, .int p2), (3, .int p3)]) rfl (fun C => ?_)
  rw [pX7_sure]
  refine g_aload_n C 0 0 dX7_sure_0 rfl ?_
  refine g_iload_n C 1 1 dX7_sure_1 rfl ?_
  refine g_iload_n C 2 3 dX7_sure_2 rfl ?_
  refine g_callVi (st := []) (As := [.int p1, .int p3]) C E0_ok E0_vm 3 0 2 (tX7_isHeard F p1 p3 u) rfl gX7_sure_X7_isHeard rfl rfl rfl (by decide +kernel) ⟨Nat.le_of_ble_eq_true rfl, Nat.le_of_ble_eq_true rfl⟩ rfl rfl rfl (Nat.le_of_ble_eq_true rfl) dX7_sure_3 (fun r2 u1 => ?_)
  refine g_if_eq C 6 16 dX7_sure_6 (by decide) ?_ ?_
  · skip
    refine g_iconst C 16 (-1) dX7_sure_16 rfl ?_
    exact g_iret C 17 dX7_sure_17
  · skip
    refine g_iload_n C 9 2 dX7_sure_9 rfl ?_
    refine g_callSi (st := []) (As := [.int p2]) C E0_ok E0_vm 10 1 (tX7_isSide F p2 u1) rfl gX7_sure_X7_isSide rfl rfl rfl (by decide +kernel) ⟨Nat.le_of_ble_eq_true rfl, Nat.le_of_ble_eq_true rfl⟩ rfl (Nat.le_of_ble_eq_true rfl) dX7_sure_10 (fun r4 u3 => ?_)
    refine g_if_ne C 13 18 dX7_sure_13 (by decide) ?_ ?_
    · skip
      refine g_iconst C 18 0 dX7_sure_18 rfl ?_
      refine g_istore C 19 [(4, .int 0), (0, .ref (ad 0)), (1, .int p1), (2, .int p2), (3, .int p3)] dX7_sure_19 (by decide) rfl ?_
      refine g_sub _ [1, 2, 3, 4, 0] rfl ?_
      refine g_lq1 (fun (x5 : Int32) => [(0, .ref (ad 0)), (1, .int p1), (2, .int p2), (3, .int p3), (4, .int x5)]) (fun self7 hself7 x5 u6 => ?_) F 0 u3
      rw [bX7_sure_21]
      refine g_iload C 21 4 dX7_sure_21 rfl ?_
      refine g_bipush C 23 9 dX7_sure_23 rfl ?_
      refine g_icmp_gt C 25 107 dX7_sure_25 (by decide) ?_ ?_
      · skip
        refine g_bipush C 107 (-4) dX7_sure_107 rfl ?_
        exact g_iret C 109 dX7_sure_109
      · skip
        refine g_iconst C 28 1 dX7_sure_28 rfl ?_
        refine g_istore C 29 [(5, .int 1), (0, .ref (ad 0)), (1, .int p1), (2, .int p2), (3, .int p3), (4, .int x5)] dX7_sure_29 (by decide) rfl ?_
        refine g_iconst C 31 0 dX7_sure_31 rfl ?_
        refine g_istore C 32 [(6, .int 0), (5, .int 1), (0, .ref (ad 0)), (1, .int p1), (2, .int p2), (3, .int p3), (4, .int x5)] dX7_sure_32 (by decide) rfl ?_
        refine g_jn1 93 (fun (a8 : Int32) => [(0, .ref (ad 0)), (1, .int p1), (2, .int p2), (3, .int p3), (4, .int x5), (5, .int a8)]) (fun (a8 : Int32) => []) (fun a8 u9 => ?_) (fun J93 hJ93 => ?_)
        · skip
          rw [jX7_sure_93]
          refine g_iload C 93 5 dX7_sure_93 rfl ?_
          refine g_if_eq C 95 101 dX7_sure_95 (by decide) ?_ ?_
          · skip
            refine g_iinc C 101 4 [(4, .int (x5 + 1)), (0, .ref (ad 0)), (1, .int p1), (2, .int p2), (3, .int p3), (5, .int a8)] dX7_sure_101 rfl rfl (by decide) rfl ?_
            refine g_goto C 104 21 dX7_sure_104 (by decide) ?_
            exact g_sub _ [1, 2, 3, 4, 0] rfl (hself7 (x5 + 1) u9)
          · skip
            refine g_iload C 98 4 dX7_sure_98 rfl ?_
            exact g_iret C 100 dX7_sure_100
        · skip
          refine g_sub _ [2, 3, 4, 5, 6, 1, 0] rfl ?_
          refine g_lq2 (fun (x10 : Int32) (x11 : Int32) => [(0, .ref (ad 0)), (1, .int p1), (2, .int p2), (3, .int p3), (4, .int x5), (5, .int x10), (6, .int x11)]) (fun self13 hself13 x10 x11 u12 => ?_) F 1 0 u6
          rw [bX7_sure_34]
          refine g_iload C 34 6 dX7_sure_34 rfl ?_
          refine g_bipush C 36 9 dX7_sure_36 rfl ?_
          refine g_icmp_gt C 38 93 dX7_sure_38 (by decide) ?_ ?_
          · skip
            exact g_sub _ [0, 1, 2, 3, 4, 5] rfl (hJ93 x10 u12)
          · skip
            refine g_iload C 41 5 dX7_sure_41 rfl ?_
            refine g_jn1 85 (fun (a14 : Int32) => [(0, .ref (ad 0)), (1, .int p1), (2, .int p2), (3, .int p3), (4, .int x5), (6, .int x11)]) (fun (a14 : Int32) => [.int a14]) (fun a14 u15 => ?_) (fun J85 hJ85 => ?_)
            · skip
              refine g_istore C 85 [(5, .int a14), (0, .ref (ad 0)), (1, .int p1), (2, .int p2), (3, .int p3), (4, .int x5), (6, .int x11)] dX7_sure_85 (by decide) rfl ?_
              refine g_iinc C 87 6 [(6, .int (x11 + 1)), (5, .int a14), (0, .ref (ad 0)), (1, .int p1), (2, .int p2), (3, .int p3), (4, .int x5)] dX7_sure_87 rfl rfl (by decide) rfl ?_
              refine g_goto C 90 34 dX7_sure_90 (by decide) ?_
              exact g_sub _ [2, 3, 4, 5, 6, 1, 0] rfl (hself13 a14 (x11 + 1) u15)
            · skip
              refine g_jn0 84 ([(0, .ref (ad 0)), (1, .int p1), (2, .int p2), (3, .int p3), (4, .int x5), (6, .int x11)]) ([]) (fun u16 => ?_) (fun J84 hJ84 => ?_)
              · skip
                refine g_iconst C 84 0 dX7_sure_84 rfl ?_
                exact g_sub _ [0, 1, 2, 3, 4, 5] rfl (hJ85 0 u16)
              · skip
                refine g_if_eq C 43 84 dX7_sure_43 (by decide) ?_ ?_
                · skip
                  exact g_sub _ [0, 1, 2, 3, 4, 6] rfl (hJ84 u12)
                · skip
                  refine g_aload_n C 46 0 dX7_sure_46 rfl ?_
                  refine g_iload_n C 47 1 dX7_sure_47 rfl ?_
                  refine g_iload_n C 48 3 dX7_sure_48 rfl ?_
                  refine g_iload_n C 49 2 dX7_sure_49 rfl ?_
                  refine g_jn1 60 (fun (a17 : Int32) => [(0, .ref (ad 0)), (1, .int p1), (2, .int p2), (3, .int p3), (4, .int x5), (6, .int x11)]) (fun (a17 : Int32) => [.int a17, .int p3, .int p1, .ref (ad 0)]) (fun a17 u18 => ?_) (fun J60 hJ60 => ?_)
                  · skip
                    refine g_iload_n C 60 2 dX7_sure_60 rfl ?_
                    refine g_jn1 71 (fun (a19 : Int32) => [(0, .ref (ad 0)), (1, .int p1), (2, .int p2), (3, .int p3), (4, .int x5), (6, .int x11)]) (fun (a19 : Int32) => [.int a19, .int a17, .int p3, .int p1, .ref (ad 0)]) (fun a19 u20 => ?_) (fun J71 hJ71 => ?_)
                    · skip
                      refine g_callVi (st := []) (As := [.int p1, .int p3, .int a17, .int a19]) C E0_ok E0_vm 71 0 4 (tX7_byGuards F p1 p3 a17 a19 u20) rfl gX7_sure_X7_byGuards rfl rfl rfl (by decide +kernel) ⟨Nat.le_of_ble_eq_true rfl, Nat.le_of_ble_eq_true rfl⟩ rfl rfl rfl (Nat.le_of_ble_eq_true rfl) dX7_sure_71 (fun r22 u21 => ?_)
                      refine g_iload_n C 74 2 dX7_sure_74 rfl ?_
                      refine g_iconst C 75 1 dX7_sure_75 rfl ?_
                      refine g_iadd C 76 dX7_sure_76 ?_
                      refine g_icmp_ne C 77 84 dX7_sure_77 (by decide) ?_ ?_
                      · skip
                        exact g_sub _ [0, 1, 2, 3, 4, 5] rfl (hJ84 u21)
                      · skip
                        refine g_iconst C 80 1 dX7_sure_80 rfl ?_
                        refine g_goto C 81 85 dX7_sure_81 (by decide) ?_
                        exact g_sub _ [0, 1, 2, 3, 4, 5] rfl (hJ85 1 u21)
                    · skip
                      refine g_if_ne C 61 69 dX7_sure_61 (by decide) ?_ ?_
                      · skip
                        refine g_iload C 69 4 dX7_sure_69 rfl ?_
                        exact g_sub _ [0, 1, 2, 3, 4, 5] rfl (hJ71 x5 u18)
                      · skip
                        refine g_iload C 64 5 dX7_sure_64 rfl ?_
                        refine g_goto C 66 71 dX7_sure_66 (by decide) ?_
                        exact g_sub _ [0, 1, 2, 3, 4, 5] rfl (hJ71 x11 u18)
                  · skip
                    refine g_if_ne C 50 58 dX7_sure_50 (by decide) ?_ ?_
                    · skip
                      refine g_iload C 58 6 dX7_sure_58 rfl ?_
                      exact g_sub _ [0, 1, 2, 3, 4, 6] rfl (hJ60 x11 u12)
                    · skip
                      refine g_iload C 53 4 dX7_sure_53 rfl ?_
                      refine g_goto C 55 60 dX7_sure_55 (by decide) ?_
                      exact g_sub _ [0, 1, 2, 3, 4, 6] rfl (hJ60 x5 u12)
    · skip
      refine g_iconst C 16 (-1) dX7_sure_16 rfl ?_
      exact g_iret C 17 dX7_sure_17
def bX7_isRest_5 (F : Nat) (p1 : Int32) (p2 : Int32) (self4 : Int32 → Int32 → St → Option (Int32 × St)) (x1 : Int32) (x2 : Int32) (u3 : St) : Option (Int32 × St) :=
  if 9 < x2 then gd (z01 x1) (some (x1, u3)) else jn (fun (a5 : Int32) (u6 : St) => (self4 a5 (x2 + 1) u6)) (fun (J73 : Int32 → St → Option (Int32 × St)) => jn (fun (u7 : St) => (J73 0 u7)) (fun (J72 : St → Option (Int32 × St)) => if x1 = 0 then (J72 u3) else gd (inb ((10 * x2) + p2) 100) (gd (inb ((10 * p1) + p2) 100) (if (u3.2 6 (Int32.toNatClampNeg ((10 * p1) + p2))) < (u3.2 6 (Int32.toNatClampNeg ((10 * x2) + p2))) then (J72 u3) else gd (inb ((10 * p1) + x2) 100) (gd (inb ((10 * p1) + p2) 100) (if (u3.2 6 (Int32.toNatClampNeg ((10 * p1) + x2))) < (u3.2 6 (Int32.toNatClampNeg ((10 * p1) + p2))) then (J72 u3) else (J73 1 u3)))))))
def pX7_isRest (F : Nat) (p1 : Int32) (p2 : Int32) (u : St) : Option (Int32 × St) :=
  (lq2 (bX7_isRest_5 F p1 p2) F 1 0 u)
set_option maxRecDepth 100000 in
set_option maxHeartbeats 4000000 in
theorem tX7_isRest {l : Launch} {D : va_G} {cI cZ : ClassId} {ad : Nat → Nat} (F : Nat) (p1 : Int32) (p2 : Int32) (u : St) : CtI l D [(cI, .int), (cZ, .boolean)] (wM ad cI cZ) E0 yX7_isRest wsX7_isRest ({ frames := 0, cells := 0, slots := 0, locals := 0 } : Room) [.ref (ad 0), .int p1, .int p2] u (pX7_isRest F p1 p2 u) := by
  refine ctI_of (own := RX7) (cc := cX7_isRest) (n := 5) (ret := (some .boolean)) (by decide) rfl rfl (Nat.le_of_ble_eq_true rfl) (lv := [(0, .ref (ad 0)), (1, .int p1), (2, .int p2)]) rfl (fun C => ?_)
  have iX7 : ∀ w ∈ wsX70, w ∈ wsX7_isRest := fun w h => List.mem_cons_of_mem _ (List.mem_append_right _ (inlX7 w h))
  rw [pX7_isRest]
  refine g_iconst C 0 1 dX7_isRest_0 rfl ?_
  refine g_istore_n C 1 [(3, .int 1), (0, .ref (ad 0)), (1, .int p1), (2, .int p2)] dX7_isRest_1 (by decide) rfl ?_
  refine g_iconst C 2 0 dX7_isRest_2 rfl ?_
  refine g_istore C 3 [(4, .int 0), (3, .int 1), (0, .ref (ad 0)), (1, .int p1), (2, .int p2)] dX7_isRest_3 (by decide) rfl ?_
  refine g_sub _ [2, 3, 4, 1, 0] rfl ?_
  refine g_lq2 (fun (x1 : Int32) (x2 : Int32) => [(0, .ref (ad 0)), (1, .int p1), (2, .int p2), (3, .int x1), (4, .int x2)]) (fun self4 hself4 x1 x2 u3 => ?_) F 1 0 u
  rw [bX7_isRest_5]
  refine g_iload C 5 4 dX7_isRest_5 rfl ?_
  refine g_bipush C 7 9 dX7_isRest_7 rfl ?_
  refine g_icmp_gt C 9 80 dX7_isRest_9 (by decide) ?_ ?_
  · skip
    refine g_iload_n C 80 3 dX7_isRest_80 rfl ?_
    exact g_zret C 81 dX7_isRest_81
  · skip
    refine g_iload_n C 12 3 dX7_isRest_12 rfl ?_
    refine g_jn1 73 (fun (a5 : Int32) => [(0, .ref (ad 0)), (1, .int p1), (2, .int p2), (4, .int x2)]) (fun (a5 : Int32) => [.int a5]) (fun a5 u6 => ?_) (fun J73 hJ73 => ?_)
    · skip
      refine g_istore_n C 73 [(3, .int a5), (0, .ref (ad 0)), (1, .int p1), (2, .int p2), (4, .int x2)] dX7_isRest_73 (by decide) rfl ?_
      refine g_iinc C 74 4 [(4, .int (x2 + 1)), (3, .int a5), (0, .ref (ad 0)), (1, .int p1), (2, .int p2)] dX7_isRest_74 rfl rfl (by decide) rfl ?_
      refine g_goto C 77 5 dX7_isRest_77 (by decide) ?_
      exact g_sub _ [2, 3, 4, 1, 0] rfl (hself4 a5 (x2 + 1) u6)
    · skip
      refine g_jn0 72 ([(0, .ref (ad 0)), (1, .int p1), (2, .int p2), (4, .int x2)]) ([]) (fun u7 => ?_) (fun J72 hJ72 => ?_)
      · skip
        refine g_iconst C 72 0 dX7_isRest_72 rfl ?_
        exact g_sub _ [0, 1, 2, 3] rfl (hJ73 0 u7)
      · skip
        refine g_if_eq C 13 72 dX7_isRest_13 (by decide) ?_ ?_
        · skip
          exact g_sub _ [0, 1, 2, 4] rfl (hJ72 u3)
        · skip
          refine g_aload_n C 16 0 dX7_isRest_16 rfl ?_
          refine gfM_X7_worths C 17 iX7 (List.mem_cons_of_mem _ (List.mem_append_right _ wgL_5_20.1)) dX7_isRest_17 ?_
          refine g_bipush C 20 10 dX7_isRest_20 rfl ?_
          refine g_iload C 22 4 dX7_isRest_22 rfl ?_
          refine g_imul C 24 dX7_isRest_24 ?_
          refine g_iload_n C 25 2 dX7_isRest_25 rfl ?_
          refine g_iadd C 26 dX7_isRest_26 ?_
          refine g_iald C 27 (1 + 6) 0 (wM_arr 6 (by decide)) rfl dX7_isRest_27 ?_
          refine g_aload_n C 28 0 dX7_isRest_28 rfl ?_
          refine gfM_X7_worths C 29 iX7 (List.mem_cons_of_mem _ (List.mem_append_right _ wgL_5_20.1)) dX7_isRest_29 ?_
          refine g_bipush C 32 10 dX7_isRest_32 rfl ?_
          refine g_iload_n C 34 1 dX7_isRest_34 rfl ?_
          refine g_imul C 35 dX7_isRest_35 ?_
          refine g_iload_n C 36 2 dX7_isRest_36 rfl ?_
          refine g_iadd C 37 dX7_isRest_37 ?_
          refine g_iald C 38 (1 + 6) 0 (wM_arr 6 (by decide)) rfl dX7_isRest_38 ?_
          refine g_icmp_gt C 39 72 dX7_isRest_39 (by decide) ?_ ?_
          · skip
            exact g_sub _ [0, 1, 2, 4] rfl (hJ72 u3)
          · skip
            refine g_aload_n C 42 0 dX7_isRest_42 rfl ?_
            refine gfM_X7_worths C 43 iX7 (List.mem_cons_of_mem _ (List.mem_append_right _ wgL_5_20.1)) dX7_isRest_43 ?_
            refine g_bipush C 46 10 dX7_isRest_46 rfl ?_
            refine g_iload_n C 48 1 dX7_isRest_48 rfl ?_
            refine g_imul C 49 dX7_isRest_49 ?_
            refine g_iload C 50 4 dX7_isRest_50 rfl ?_
            refine g_iadd C 52 dX7_isRest_52 ?_
            refine g_iald C 53 (1 + 6) 0 (wM_arr 6 (by decide)) rfl dX7_isRest_53 ?_
            refine g_aload_n C 54 0 dX7_isRest_54 rfl ?_
            refine gfM_X7_worths C 55 iX7 (List.mem_cons_of_mem _ (List.mem_append_right _ wgL_5_20.1)) dX7_isRest_55 ?_
            refine g_bipush C 58 10 dX7_isRest_58 rfl ?_
            refine g_iload_n C 60 1 dX7_isRest_60 rfl ?_
            refine g_imul C 61 dX7_isRest_61 ?_
            refine g_iload_n C 62 2 dX7_isRest_62 rfl ?_
            refine g_iadd C 63 dX7_isRest_63 ?_
            refine g_iald C 64 (1 + 6) 0 (wM_arr 6 (by decide)) rfl dX7_isRest_64 ?_
            refine g_icmp_lt C 65 72 dX7_isRest_65 (by decide) ?_ ?_
            · skip
              exact g_sub _ [0, 1, 2, 4] rfl (hJ72 u3)
            · skip
              refine g_iconst C 68 1 dX7_isRest_68 rfl ?_
              refine g_goto C 69 73 dX7_isRest_69 (by decide) ?_
              exact g_sub _ [0, 1, 2, 4] rfl (hJ73 1 u3)
def jX7_rest_156 (F : Nat) (p3 : Int32) (a6 : Int32) (a7 : Int32) (u8 : St) : Option (Int32 × St) :=
  if p3 = 0 then some (a6, u8) else some (a7, u8)
def bX7_rest_93 (F : Nat) (J156 : Int32 → Int32 → St → Option (Int32 × St)) (self13 : Int32 → Int32 → Int32 → St → Option (Int32 × St)) (x9 : Int32) (x10 : Int32) (x11 : Int32) (u12 : St) : Option (Int32 × St) :=
  if 100 ≤ x11 then (J156 x9 x10 u12) else gd (nz 10) (gd (nz 10) (bd (pX7_isRest F (x11 / 10) (irm x11 10) u12) (fun (r15 : Int32) (u14 : St) => jn (fun (a16 : Int32) (u17 : St) => jn (fun (a18 : Int32) (u19 : St) => vl (x9 + a18) (fun v20 => (self13 v20 a16 (x11 + 1) u19))) (fun (J147 : Int32 → St → Option (Int32 × St)) => if r15 = 0 then (J147 0 u17) else (J147 1 u17))) (fun (J133 : Int32 → St → Option (Int32 × St)) => jn (fun (u21 : St) => (J133 x10 u21)) (fun (J131 : St → Option (Int32 × St)) => if r15 = 0 then (J131 u14) else if x9 = 0 then (J133 x11 u14) else (J131 u14))))))
def jX7_rest_83 (F : Nat) (p3 : Int32)  (u5 : St) : Option (Int32 × St) :=
  jn (jX7_rest_156 F p3) (fun (J156 : Int32 → Int32 → St → Option (Int32 × St)) => (lq3 (bX7_rest_93 F J156) F 0 (-4) 0 u5))
def bX7_rest_24 (F : Nat) (p1 : Int32) (p2 : Int32) (J83 : St → Option (Int32 × St)) (self24 : Int32 → St → Option (Int32 × St)) (x22 : Int32) (u23 : St) : Option (Int32 × St) :=
  if 100 ≤ x22 then (J83 u23) else gd (nz 10) (gd (nz 10) (bd (pX7_byGuards F p1 p2 (x22 / 10) (irm x22 10) u23) (fun (r26 : Int32) (u25 : St) => jn (fun (a27 : Int32) (u28 : St) => gd (inb x22 100) (vl (sta u28 6 x22 a27) (fun (u29 : St) => (self24 (x22 + 1) u29)))) (fun (J76 : Int32 → St → Option (Int32 × St)) => if r26 = 1 then (J76 2 u25) else if r26 = 3 then (J76 1 u25) else (J76 0 u25)))))
def pX7_rest (F : Nat) (p1 : Int32) (p2 : Int32) (p3 : Int32) (u : St) : Option (Int32 × St) :=
  bd (pX7_isHeard F p1 p2 u) (fun (r2 : Int32) (u1 : St) => if r2 = 0 then some ((-1), u1) else bd (pX7_in F (Int32.toInt64 p3) 0 1 u1) (fun (r4 : Int32) (u3 : St) => if r4 = 0 then some ((-1), u3) else jn (jX7_rest_83 F p3) (fun (J83 : St → Option (Int32 × St)) => (lq1 (bX7_rest_24 F p1 p2 J83) F 0 u3))))
set_option maxRecDepth 100000 in
set_option maxHeartbeats 4000000 in
theorem tX7_rest {l : Launch} {D : va_G} {cI cZ : ClassId} {ad : Nat → Nat} (F : Nat) (p1 : Int32) (p2 : Int32) (p3 : Int32) (u : St) : CtI l D [(cI, .int), (cZ, .boolean)] (wM ad cI cZ) E0 yX7_rest wsX7_rest ({ frames := 5, cells := 0, slots := 0, locals := 122 } : Room) [.ref (ad 0), .int p1, .int p2, .int p3] u (pX7_rest F p1 p2 p3 u) := by
  refine ctI_of (own := RX7) (cc := cX7_rest) (n := 8) (ret := (some .int)) (by decide) rfl rfl (Nat.le_of_ble_eq_true rfl) (lv := [(0, .ref (ad 0)), (1, .int p1), (2, .int p2), (3, .int p3)]) rfl (fun C => ?_)
  have iX7 : ∀ w ∈ wsX70, w ∈ wsX7_rest := fun w h => List.mem_cons_of_mem _ (List.mem_append_right _ (inlX7 w h))
  rw [pX7_rest]
  refine g_aload_n C 0 0 dX7_rest_0 rfl ?_
  refine g_iload_n C 1 1 dX7_rest_1 rfl ?_
  refine g_iload_n C 2 2 dX7_rest_2 rfl ?_
  refine g_callVi (st := []) (As := [.int p1, .int p2]) C E0_ok E0_vm 3 0 2 (tX7_isHeard F p1 p2 u) rfl gX7_rest_X7_isHeard rfl rfl rfl (by decide +kernel) ⟨Nat.le_of_ble_eq_true rfl, Nat.le_of_ble_eq_true rfl⟩ rfl rfl rfl (Nat.le_of_ble_eq_true rfl) dX7_rest_3 (fun r2 u1 => ?_)
  refine g_if_eq C 6 19 dX7_rest_6 (by decide) ?_ ?_
  · skip
    refine g_iconst C 19 (-1) dX7_rest_19 rfl ?_
    exact g_iret C 20 dX7_rest_20
  · skip
    refine g_iload_n C 9 3 dX7_rest_9 rfl ?_
    refine g_i2l C 10 dX7_rest_10 ?_
    refine g_lconst C 11 0 dX7_rest_11 rfl ?_
    refine g_lconst C 12 1 dX7_rest_12 rfl ?_
    refine g_callSi (st := []) (As := [.long (Int32.toInt64 p3), .long 0, .long 1]) C E0_ok E0_vm 13 3 (tX7_in F (Int32.toInt64 p3) 0 1 u1) rfl gX7_rest_X7_in rfl rfl rfl (by decide +kernel) ⟨Nat.le_of_ble_eq_true rfl, Nat.le_of_ble_eq_true rfl⟩ rfl (Nat.le_of_ble_eq_true rfl) dX7_rest_13 (fun r4 u3 => ?_)
    refine g_if_ne C 16 21 dX7_rest_16 (by decide) ?_ ?_
    · skip
      refine g_iconst C 21 0 dX7_rest_21 rfl ?_
      refine g_istore C 22 [(4, .int 0), (0, .ref (ad 0)), (1, .int p1), (2, .int p2), (3, .int p3)] dX7_rest_22 (by decide) rfl ?_
      refine g_jn0 83 ([(0, .ref (ad 0)), (3, .int p3)]) ([]) (fun u5 => ?_) (fun J83 hJ83 => ?_)
      · skip
        rw [jX7_rest_83]
        refine g_iconst C 83 0 dX7_rest_83 rfl ?_
        refine g_istore C 84 [(4, .int 0), (0, .ref (ad 0)), (3, .int p3)] dX7_rest_84 (by decide) rfl ?_
        refine g_bipush C 86 (-4) dX7_rest_86 rfl ?_
        refine g_istore C 88 [(5, .int (-4)), (4, .int 0), (0, .ref (ad 0)), (3, .int p3)] dX7_rest_88 (by decide) rfl ?_
        refine g_iconst C 90 0 dX7_rest_90 rfl ?_
        refine g_istore C 91 [(6, .int 0), (5, .int (-4)), (4, .int 0), (0, .ref (ad 0)), (3, .int p3)] dX7_rest_91 (by decide) rfl ?_
        refine g_jn2 156 (fun (a6 : Int32) (a7 : Int32) => [(3, .int p3), (4, .int a6), (5, .int a7)]) (fun (a6 : Int32) (a7 : Int32) => []) (fun a6 a7 u8 => ?_) (fun J156 hJ156 => ?_)
        · skip
          rw [jX7_rest_156]
          refine g_iload_n C 156 0 dX7_rest_156 rfl ?_
          refine g_if_ne C 157 165 dX7_rest_157 (by decide) ?_ ?_
          · skip
            refine g_iload C 165 2 dX7_rest_165 rfl ?_
            exact g_iret C 167 dX7_rest_167
          · skip
            refine g_iload C 160 1 dX7_rest_160 rfl ?_
            refine g_goto C 162 167 dX7_rest_162 (by decide) ?_
            exact g_iret C 167 dX7_rest_167
        · skip
          refine g_sub _ [3, 4, 2, 1, 0] rfl ?_
          refine g_lq3 (fun (x9 : Int32) (x10 : Int32) (x11 : Int32) => [(0, .ref (ad 0)), (3, .int p3), (4, .int x9), (5, .int x10), (6, .int x11)]) (fun self13 hself13 x9 x10 x11 u12 => ?_) F 0 (-4) 0 u5
          rw [bX7_rest_93]
          refine g_iload C 93 4 dX7_rest_93 rfl ?_
          refine g_bipush C 95 100 dX7_rest_95 rfl ?_
          refine g_icmp_ge C 97 156 dX7_rest_97 (by decide) ?_ ?_
          · skip
            exact g_sub _ [1, 2, 3] rfl (hJ156 x9 x10 u12)
          · skip
            refine g_aload_n C 100 0 dX7_rest_100 rfl ?_
            refine g_iload C 101 4 dX7_rest_101 rfl ?_
            refine g_bipush C 103 10 dX7_rest_103 rfl ?_
            refine g_idiv C 105 dX7_rest_105 ?_
            refine g_iload C 106 4 dX7_rest_106 rfl ?_
            refine g_bipush C 108 10 dX7_rest_108 rfl ?_
            refine g_irem C 110 dX7_rest_110 ?_
            refine g_callVi (st := []) (As := [.int (x11 / 10), .int (irm x11 10)]) C E0_ok E0_vm 111 0 2 (tX7_isRest F (x11 / 10) (irm x11 10) u12) rfl gX7_rest_X7_isRest rfl rfl rfl (by decide +kernel) ⟨Nat.le_of_ble_eq_true rfl, Nat.le_of_ble_eq_true rfl⟩ rfl rfl rfl (Nat.le_of_ble_eq_true rfl) dX7_rest_111 (fun r15 u14 => ?_)
            refine g_istore C 114 [(7, .int r15), (0, .ref (ad 0)), (3, .int p3), (4, .int x9), (5, .int x10), (6, .int x11)] dX7_rest_114 (by decide) rfl ?_
            refine g_iload C 116 0 dX7_rest_116 rfl ?_
            refine g_jn1 133 (fun (a16 : Int32) => [(0, .ref (ad 0)), (3, .int p3), (4, .int x9), (6, .int x11), (7, .int r15)]) (fun (a16 : Int32) => [.int a16]) (fun a16 u17 => ?_) (fun J133 hJ133 => ?_)
            · skip
              refine g_istore C 133 [(5, .int a16), (0, .ref (ad 0)), (3, .int p3), (4, .int x9), (6, .int x11), (7, .int r15)] dX7_rest_133 (by decide) rfl ?_
              refine g_iload C 135 3 dX7_rest_135 rfl ?_
              refine g_iload C 137 5 dX7_rest_137 rfl ?_
              refine g_jn1 147 (fun (a18 : Int32) => [(0, .ref (ad 0)), (3, .int p3), (5, .int a16), (6, .int x11)]) (fun (a18 : Int32) => [.int a18, .int x9]) (fun a18 u19 => ?_) (fun J147 hJ147 => ?_)
              · skip
                refine g_iadd C 147 dX7_rest_147 ?_
                refine g_istoreV C 148 (fun v20 => [(4, .int v20), (0, .ref (ad 0)), (3, .int p3), (5, .int a16), (6, .int x11)]) dX7_rest_148 (by decide) (fun _ => rfl) (fun v20 => ?_)
                refine g_iinc C 150 4 [(6, .int (x11 + 1)), (4, .int v20), (0, .ref (ad 0)), (3, .int p3), (5, .int a16)] dX7_rest_150 rfl rfl (by decide) rfl ?_
                refine g_goto C 153 93 dX7_rest_153 (by decide) ?_
                exact g_sub _ [2, 3, 1, 4, 0] rfl (hself13 v20 a16 (x11 + 1) u19)
              · skip
                refine g_if_eq C 139 146 dX7_rest_139 (by decide) ?_ ?_
                · skip
                  refine g_iconst C 146 0 dX7_rest_146 rfl ?_
                  exact g_sub _ [1, 2, 0, 4] rfl (hJ147 0 u17)
                · skip
                  refine g_iconst C 142 1 dX7_rest_142 rfl ?_
                  refine g_goto C 143 147 dX7_rest_143 (by decide) ?_
                  exact g_sub _ [1, 2, 0, 4] rfl (hJ147 1 u17)
            · skip
              refine g_jn0 131 ([(0, .ref (ad 0)), (3, .int p3), (4, .int x9), (5, .int x10), (6, .int x11), (7, .int r15)]) ([]) (fun u21 => ?_) (fun J131 hJ131 => ?_)
              · skip
                refine g_iload C 131 3 dX7_rest_131 rfl ?_
                exact g_sub _ [0, 1, 2, 4, 5] rfl (hJ133 x10 u21)
              · skip
                refine g_if_eq C 118 131 dX7_rest_118 (by decide) ?_ ?_
                · skip
                  exact g_sub _ [1, 2, 3, 4, 5, 0] rfl (hJ131 u14)
                · skip
                  refine g_iload C 121 3 dX7_rest_121 rfl ?_
                  refine g_if_ne C 123 131 dX7_rest_123 (by decide) ?_ ?_
                  · skip
                    exact g_sub _ [1, 2, 3, 4, 5, 0] rfl (hJ131 u14)
                  · skip
                    refine g_iload C 126 5 dX7_rest_126 rfl ?_
                    refine g_goto C 128 133 dX7_rest_128 (by decide) ?_
                    exact g_sub _ [1, 2, 3, 5, 0] rfl (hJ133 x11 u14)
      · skip
        refine g_sub _ [1, 2, 3, 4, 0] rfl ?_
        refine g_lq1 (fun (x22 : Int32) => [(0, .ref (ad 0)), (1, .int p1), (2, .int p2), (3, .int p3), (4, .int x22)]) (fun self24 hself24 x22 u23 => ?_) F 0 u3
        rw [bX7_rest_24]
        refine g_iload C 24 4 dX7_rest_24 rfl ?_
        refine g_bipush C 26 100 dX7_rest_26 rfl ?_
        refine g_icmp_ge C 28 83 dX7_rest_28 (by decide) ?_ ?_
        · skip
          exact g_sub _ [0, 3] rfl (hJ83 u23)
        · skip
          refine g_aload_n C 31 0 dX7_rest_31 rfl ?_
          refine g_iload_n C 32 1 dX7_rest_32 rfl ?_
          refine g_iload_n C 33 2 dX7_rest_33 rfl ?_
          refine g_iload C 34 4 dX7_rest_34 rfl ?_
          refine g_bipush C 36 10 dX7_rest_36 rfl ?_
          refine g_idiv C 38 dX7_rest_38 ?_
          refine g_iload C 39 4 dX7_rest_39 rfl ?_
          refine g_bipush C 41 10 dX7_rest_41 rfl ?_
          refine g_irem C 43 dX7_rest_43 ?_
          refine g_callVi (st := []) (As := [.int p1, .int p2, .int (x22 / 10), .int (irm x22 10)]) C E0_ok E0_vm 44 0 4 (tX7_byGuards F p1 p2 (x22 / 10) (irm x22 10) u23) rfl gX7_rest_X7_byGuards rfl rfl rfl (by decide +kernel) ⟨Nat.le_of_ble_eq_true rfl, Nat.le_of_ble_eq_true rfl⟩ rfl rfl rfl (Nat.le_of_ble_eq_true rfl) dX7_rest_44 (fun r26 u25 => ?_)
          refine g_istore C 47 [(5, .int r26), (0, .ref (ad 0)), (1, .int p1), (2, .int p2), (3, .int p3), (4, .int x22)] dX7_rest_47 (by decide) rfl ?_
          refine g_aload_n C 49 1 dX7_rest_49 rfl ?_
          refine gfM_X7_worths C 50 iX7 (List.mem_cons_of_mem _ (List.mem_append_right _ wgL_5_20.1)) dX7_rest_50 ?_
          refine g_iload C 53 5 dX7_rest_53 rfl ?_
          refine g_iload C 55 0 dX7_rest_55 rfl ?_
          refine g_iconst C 57 1 dX7_rest_57 rfl ?_
          refine g_jn1 76 (fun (a27 : Int32) => [(0, .ref (ad 0)), (1, .int p1), (2, .int p2), (3, .int p3), (4, .int x22)]) (fun (a27 : Int32) => [.int a27, .int x22, .ref (ad (1 + 6))]) (fun a27 u28 => ?_) (fun J76 hJ76 => ?_)
          · skip
            refine g_iast C 76 (1 + 6) 0 6 (wM_arr 6 (by decide)) (wM_aset 6 (by decide)) rfl dX7_rest_76 (fun u29 => ?_)
            refine g_iinc C 77 4 [(4, .int (x22 + 1)), (0, .ref (ad 0)), (1, .int p1), (2, .int p2), (3, .int p3)] dX7_rest_77 rfl rfl (by decide) rfl ?_
            refine g_goto C 80 24 dX7_rest_80 (by decide) ?_
            exact g_sub _ [1, 2, 3, 4, 0] rfl (hself24 (x22 + 1) u29)
          · skip
            refine g_icmp_ne C 58 65 dX7_rest_58 (by decide) ?_ ?_
            · skip
              refine g_iload C 65 0 dX7_rest_65 rfl ?_
              refine g_iconst C 67 3 dX7_rest_67 rfl ?_
              refine g_icmp_ne C 68 75 dX7_rest_68 (by decide) ?_ ?_
              · skip
                refine g_iconst C 75 0 dX7_rest_75 rfl ?_
                exact g_sub _ [1, 2, 3, 4, 5] rfl (hJ76 0 u25)
              · skip
                refine g_iconst C 71 1 dX7_rest_71 rfl ?_
                refine g_goto C 72 76 dX7_rest_72 (by decide) ?_
                exact g_sub _ [1, 2, 3, 4, 5] rfl (hJ76 1 u25)
            · skip
              refine g_iconst C 61 2 dX7_rest_61 rfl ?_
              refine g_goto C 62 76 dX7_rest_62 (by decide) ?_
              exact g_sub _ [1, 2, 3, 4, 5] rfl (hJ76 2 u25)
    · skip
      refine g_iconst C 19 (-1) dX7_rest_19 rfl ?_
      exact g_iret C 20 dX7_rest_20
def jX7_share_181 (F : Nat) (p2 : Int32) (a4 : Int32) (a5 : Int32) (u6 : St) : Option (Int32 × St) :=
  if p2 = 0 then some (a4, u6) else some (a5, u6)
def jX7_share_129 (F : Nat) (p1 : Int32) (p2 : Int32) (x7 : Int32) (x8 : Int32) (x9 : Int32) (self11 : Int32 → Int32 → Int32 → St → Option (Int32 × St)) (a15 : Int32) (u16 : St) : Option (Int32 × St) :=
  jn (fun (a17 : Int32) (u18 : St) => vl (x7 + a17) (fun v19 => jn (fun (a20 : Int32) (u21 : St) => (self11 v19 a20 (x9 + 1) u21)) (fun (J173 : Int32 → St → Option (Int32 × St)) => if (p2 - 10) = x9 then (J173 a15 u18) else (J173 x8 u18)))) (fun (J155 : Int32 → St → Option (Int32 × St)) => jn (fun (u22 : St) => (J155 0 u22)) (fun (J154 : St → Option (Int32 × St)) => if a15 = (-4) then (J154 u16) else bd (pX7_isWonBy F 0 x9 p1 a15 u16) (fun (r24 : Int32) (u23 : St) => if r24 = 0 then (J154 u23) else (J155 1 u23))))
def bX7_share_89 (F : Nat) (p1 : Int32) (x9 : Int32) (J129 : Int32 → St → Option (Int32 × St)) (self28 : Int32 → Int32 → St → Option (Int32 × St)) (x25 : Int32) (x26 : Int32) (u27 : St) : Option (Int32 × St) :=
  if x26 < 0 then (J129 x25 u27) else if x25 = (-4) then (J129 x25 u27) else bd (pX7_isWonBy F 0 x9 p1 x26 u27) (fun (r30 : Int32) (u29 : St) => jn (fun (a31 : Int32) (u32 : St) => (self28 a31 (x26 + (-1)) u32)) (fun (J121 : Int32 → St → Option (Int32 × St)) => if r30 = 0 then (J121 x25 u29) else (J121 x26 u29)))
def bX7_share_51 (F : Nat) (p1 : Int32) (p2 : Int32) (J181 : Int32 → Int32 → St → Option (Int32 × St)) (self11 : Int32 → Int32 → Int32 → St → Option (Int32 × St)) (x7 : Int32) (x8 : Int32) (x9 : Int32) (u10 : St) : Option (Int32 × St) :=
  if (u10.1 0) ≤ x9 then (J181 x7 x8 u10) else gd (inb (24 + x9) 408) (jn (fun (a12 : Int32) (u13 : St) => vl ((u13.1 1) - 1) (fun v14 => jn (jX7_share_129 F p1 p2 x7 x8 x9 self11) (fun (J129 : Int32 → St → Option (Int32 × St)) => (lq2 (bX7_share_89 F p1 x9 J129) F a12 v14 u13)))) (fun (J79 : Int32 → St → Option (Int32 × St)) => if (u10.2 0 (Int32.toNatClampNeg (24 + x9))) = 0 then (J79 0 u10) else (J79 (-4) u10)))
def pX7_share (F : Nat) (p1 : Int32) (p2 : Int32) (u : St) : Option (Int32 × St) :=
  bd (pX7_isSide F p1 u) (fun (r2 : Int32) (u1 : St) => if r2 = 0 then some ((-1), u1) else jn (fun (u3 : St) => if (u3.1 1) = 0 then some ((-4), u3) else jn (jX7_share_181 F p2) (fun (J181 : Int32 → Int32 → St → Option (Int32 × St)) => (lq3 (bX7_share_51 F p1 p2 J181) F 0 (-4) 0 u3))) (fun (J32 : St → Option (Int32 × St)) => if p2 = 0 then (J32 u1) else bd (pX7_in F (Int32.toInt64 p2) 10 (Int32.toInt64 (9 + (u1.1 0))) u1) (fun (r34 : Int32) (u33 : St) => if r34 = 0 then some ((-1), u33) else (J32 u33))))
set_option maxRecDepth 100000 in
set_option maxHeartbeats 4000000 in
theorem tX7_share {l : Launch} {D : va_G} {cI cZ : ClassId} {ad : Nat → Nat} (F : Nat) (p1 : Int32) (p2 : Int32) (u : St) : CtI l D [(cI, .int), (cZ, .boolean)] (wM ad cI cZ) E0 yX7_share wsX7_share ({ frames := 5, cells := 0, slots := 0, locals := 122 } : Room) [.ref (ad 0), .int p1, .int p2] u (pX7_share F p1 p2 u) := by
  refine ctI_of (own := RX7) (cc := cX7_share) (n := 8) (ret := (some .int)) (by decide) rfl rfl (Nat.le_of_ble_eq_true rfl) (lv := [(0, .ref (ad 0)), (1, .int p1), (2, .int p2)]) rfl (fun C => ?_)
  have iX7 : ∀ w ∈ wsX70, w ∈ wsX7_share := fun w h => List.mem_cons_of_mem _ (List.mem_append_right _ (inlX7 w h))
  rw [pX7_share]
  refine g_iload_n C 0 1 dX7_share_0 rfl ?_
  refine g_callSi (st := []) (As := [.int p1]) C E0_ok E0_vm 1 1 (tX7_isSide F p1 u) rfl gX7_share_X7_isSide rfl rfl rfl (by decide +kernel) ⟨Nat.le_of_ble_eq_true rfl, Nat.le_of_ble_eq_true rfl⟩ rfl (Nat.le_of_ble_eq_true rfl) dX7_share_1 (fun r2 u1 => ?_)
  refine g_if_eq C 4 30 dX7_share_4 (by decide) ?_ ?_
  · skip
    refine g_iconst C 30 (-1) dX7_share_30 rfl ?_
    exact g_iret C 31 dX7_share_31
  · skip
    refine g_iload_n C 7 2 dX7_share_7 rfl ?_
    refine g_jn0 32 ([(0, .ref (ad 0)), (1, .int p1), (2, .int p2)]) ([]) (fun u3 => ?_) (fun J32 hJ32 => ?_)
    · skip
      refine g_aload_n C 32 0 dX7_share_32 rfl ?_
      refine gfM_X7_judgeMany C 33 iX7 (List.mem_cons_of_mem _ (List.mem_append_right _ wgL_15_17.1)) dX7_share_33 ?_
      refine g_if_ne C 36 42 dX7_share_36 (by decide) ?_ ?_
      · skip
        refine g_iconst C 42 0 dX7_share_42 rfl ?_
        refine g_istore_n C 43 [(3, .int 0), (0, .ref (ad 0)), (1, .int p1), (2, .int p2)] dX7_share_43 (by decide) rfl ?_
        refine g_bipush C 44 (-4) dX7_share_44 rfl ?_
        refine g_istore C 46 [(4, .int (-4)), (3, .int 0), (0, .ref (ad 0)), (1, .int p1), (2, .int p2)] dX7_share_46 (by decide) rfl ?_
        refine g_iconst C 48 0 dX7_share_48 rfl ?_
        refine g_istore C 49 [(5, .int 0), (4, .int (-4)), (3, .int 0), (0, .ref (ad 0)), (1, .int p1), (2, .int p2)] dX7_share_49 (by decide) rfl ?_
        refine g_jn2 181 (fun (a4 : Int32) (a5 : Int32) => [(2, .int p2), (3, .int a4), (4, .int a5)]) (fun (a4 : Int32) (a5 : Int32) => []) (fun a4 a5 u6 => ?_) (fun J181 hJ181 => ?_)
        · skip
          rw [jX7_share_181]
          refine g_iload_n C 181 0 dX7_share_181 rfl ?_
          refine g_if_ne C 182 189 dX7_share_182 (by decide) ?_ ?_
          · skip
            refine g_iload C 189 2 dX7_share_189 rfl ?_
            exact g_iret C 191 dX7_share_191
          · skip
            refine g_iload_n C 185 1 dX7_share_185 rfl ?_
            refine g_goto C 186 191 dX7_share_186 (by decide) ?_
            exact g_iret C 191 dX7_share_191
        · skip
          refine g_sub _ [3, 4, 5, 2, 1, 0] rfl ?_
          refine g_lq3 (fun (x7 : Int32) (x8 : Int32) (x9 : Int32) => [(0, .ref (ad 0)), (1, .int p1), (2, .int p2), (3, .int x7), (4, .int x8), (5, .int x9)]) (fun self11 hself11 x7 x8 x9 u10 => ?_) F 0 (-4) 0 u3
          rw [bX7_share_51]
          refine g_iload C 51 5 dX7_share_51 rfl ?_
          refine g_aload_n C 53 0 dX7_share_53 rfl ?_
          refine gfM_X7_caseMany C 54 iX7 (List.mem_cons_of_mem _ (List.mem_append_right _ wgL_15_16.1)) dX7_share_54 ?_
          refine g_icmp_ge C 57 181 dX7_share_57 (by decide) ?_ ?_
          · skip
            exact g_sub _ [2, 3, 4] rfl (hJ181 x7 x8 u10)
          · skip
            refine g_aload_n C 60 0 dX7_share_60 rfl ?_
            refine gfM_X7_state C 61 iX7 (List.mem_cons_of_mem _ (List.mem_append_right _ wgL_5_14.1)) dX7_share_61 ?_
            refine g_bipush C 64 24 dX7_share_64 rfl ?_
            refine g_iload C 66 5 dX7_share_66 rfl ?_
            refine g_iadd C 68 dX7_share_68 ?_
            refine g_iald C 69 (1 + 0) 0 (wM_arr 0 (by decide)) rfl dX7_share_69 ?_
            refine g_jn1 79 (fun (a12 : Int32) => [(0, .ref (ad 0)), (1, .int p1), (2, .int p2), (3, .int x7), (4, .int x8), (5, .int x9)]) (fun (a12 : Int32) => [.int a12]) (fun a12 u13 => ?_) (fun J79 hJ79 => ?_)
            · skip
              refine g_istore C 79 [(6, .int a12), (0, .ref (ad 0)), (1, .int p1), (2, .int p2), (3, .int x7), (4, .int x8), (5, .int x9)] dX7_share_79 (by decide) rfl ?_
              refine g_aload_n C 81 1 dX7_share_81 rfl ?_
              refine gfM_X7_judgeMany C 82 iX7 (List.mem_cons_of_mem _ (List.mem_append_right _ wgL_15_17.1)) dX7_share_82 ?_
              refine g_iconst C 85 1 dX7_share_85 rfl ?_
              refine g_isub C 86 dX7_share_86 ?_
              refine g_istoreV C 87 (fun v14 => [(7, .int v14), (6, .int a12), (0, .ref (ad 0)), (1, .int p1), (2, .int p2), (3, .int x7), (4, .int x8), (5, .int x9)]) dX7_share_87 (by decide) (fun _ => rfl) (fun v14 => ?_)
              refine g_jn1 129 (fun (a15 : Int32) => [(0, .ref (ad 0)), (1, .int p1), (2, .int p2), (3, .int x7), (4, .int x8), (5, .int x9), (6, .int a15)]) (fun (a15 : Int32) => []) (fun a15 u16 => ?_) (fun J129 hJ129 => ?_)
              · skip
                rw [jX7_share_129]
                refine g_iload_n C 129 3 dX7_share_129 rfl ?_
                refine g_iload C 130 6 dX7_share_130 rfl ?_
                refine g_bipush C 132 (-4) dX7_share_132 rfl ?_
                refine g_jn1 155 (fun (a17 : Int32) => [(0, .ref (ad 0)), (1, .int p1), (2, .int p2), (4, .int x8), (5, .int x9), (6, .int a15)]) (fun (a17 : Int32) => [.int a17, .int x7]) (fun a17 u18 => ?_) (fun J155 hJ155 => ?_)
                · skip
                  refine g_iadd C 155 dX7_share_155 ?_
                  refine g_istore_nV C 156 (fun v19 => [(3, .int v19), (0, .ref (ad 0)), (1, .int p1), (2, .int p2), (4, .int x8), (5, .int x9), (6, .int a15)]) dX7_share_156 (by decide) (fun _ => rfl) (fun v19 => ?_)
                  refine g_iload_n C 157 3 dX7_share_157 rfl ?_
                  refine g_bipush C 158 10 dX7_share_158 rfl ?_
                  refine g_isub C 160 dX7_share_160 ?_
                  refine g_iload C 161 5 dX7_share_161 rfl ?_
                  refine g_jn1 173 (fun (a20 : Int32) => [(0, .ref (ad 0)), (1, .int p1), (2, .int p2), (3, .int v19), (5, .int x9)]) (fun (a20 : Int32) => [.int a20]) (fun a20 u21 => ?_) (fun J173 hJ173 => ?_)
                  · skip
                    refine g_istore C 173 [(4, .int a20), (0, .ref (ad 0)), (1, .int p1), (2, .int p2), (3, .int v19), (5, .int x9)] dX7_share_173 (by decide) rfl ?_
                    refine g_iinc C 175 5 [(5, .int (x9 + 1)), (4, .int a20), (0, .ref (ad 0)), (1, .int p1), (2, .int p2), (3, .int v19)] dX7_share_175 rfl rfl (by decide) rfl ?_
                    refine g_goto C 178 51 dX7_share_178 (by decide) ?_
                    exact g_sub _ [2, 3, 4, 5, 1, 0] rfl (hself11 v19 a20 (x9 + 1) u21)
                  · skip
                    refine g_icmp_ne C 163 171 dX7_share_163 (by decide) ?_ ?_
                    · skip
                      refine g_iload C 171 4 dX7_share_171 rfl ?_
                      exact g_sub _ [1, 2, 3, 0, 5] rfl (hJ173 x8 u18)
                    · skip
                      refine g_iload C 166 6 dX7_share_166 rfl ?_
                      refine g_goto C 168 173 dX7_share_168 (by decide) ?_
                      exact g_sub _ [1, 2, 3, 0, 5] rfl (hJ173 a15 u18)
                · skip
                  refine g_jn0 154 ([(0, .ref (ad 0)), (1, .int p1), (2, .int p2), (4, .int x8), (5, .int x9), (6, .int a15)]) ([.int x7]) (fun u22 => ?_) (fun J154 hJ154 => ?_)
                  · skip
                    refine g_iconst C 154 0 dX7_share_154 rfl ?_
                    exact g_sub _ [0, 1, 2, 3, 4, 5] rfl (hJ155 0 u22)
                  · skip
                    refine g_icmp_eq C 134 154 dX7_share_134 (by decide) ?_ ?_
                    · skip
                      exact g_sub _ [0, 1, 2, 4, 5, 6] rfl (hJ154 u16)
                    · skip
                      refine g_aload_n C 137 0 dX7_share_137 rfl ?_
                      refine g_iconst C 138 0 dX7_share_138 rfl ?_
                      refine g_iload C 139 5 dX7_share_139 rfl ?_
                      refine g_iload_n C 141 1 dX7_share_141 rfl ?_
                      refine g_iload C 142 6 dX7_share_142 rfl ?_
                      refine g_callVi (st := [.int x7]) (As := [.int 0, .int x9, .int p1, .int a15]) C E0_ok E0_vm 144 0 4 (tX7_isWonBy F 0 x9 p1 a15 u16) rfl gX7_share_X7_isWonBy rfl rfl rfl (by decide +kernel) ⟨Nat.le_of_ble_eq_true rfl, Nat.le_of_ble_eq_true rfl⟩ rfl rfl rfl (Nat.le_of_ble_eq_true rfl) dX7_share_144 (fun r24 u23 => ?_)
                      refine g_if_eq C 147 154 dX7_share_147 (by decide) ?_ ?_
                      · skip
                        exact g_sub _ [0, 1, 2, 4, 5, 6] rfl (hJ154 u23)
                      · skip
                        refine g_iconst C 150 1 dX7_share_150 rfl ?_
                        refine g_goto C 151 155 dX7_share_151 (by decide) ?_
                        exact g_sub _ [0, 1, 2, 4, 5, 6] rfl (hJ155 1 u23)
              · skip
                refine g_sub _ [2, 3, 4, 5, 6, 7, 1, 0] rfl ?_
                refine g_lq2 (fun (x25 : Int32) (x26 : Int32) => [(0, .ref (ad 0)), (1, .int p1), (2, .int p2), (3, .int x7), (4, .int x8), (5, .int x9), (6, .int x25), (7, .int x26)]) (fun self28 hself28 x25 x26 u27 => ?_) F a12 v14 u13
                rw [bX7_share_89]
                refine g_iload C 89 7 dX7_share_89 rfl ?_
                refine g_if_lt C 91 129 dX7_share_91 (by decide) ?_ ?_
                · skip
                  exact g_sub _ [0, 1, 2, 3, 4, 5, 6] rfl (hJ129 x25 u27)
                · skip
                  refine g_iload C 94 6 dX7_share_94 rfl ?_
                  refine g_bipush C 96 (-4) dX7_share_96 rfl ?_
                  refine g_icmp_eq C 98 129 dX7_share_98 (by decide) ?_ ?_
                  · skip
                    exact g_sub _ [0, 1, 2, 3, 4, 5, 6] rfl (hJ129 x25 u27)
                  · skip
                    refine g_aload_n C 101 0 dX7_share_101 rfl ?_
                    refine g_iconst C 102 0 dX7_share_102 rfl ?_
                    refine g_iload C 103 5 dX7_share_103 rfl ?_
                    refine g_iload_n C 105 1 dX7_share_105 rfl ?_
                    refine g_iload C 106 7 dX7_share_106 rfl ?_
                    refine g_callVi (st := []) (As := [.int 0, .int x9, .int p1, .int x26]) C E0_ok E0_vm 108 0 4 (tX7_isWonBy F 0 x9 p1 x26 u27) rfl gX7_share_X7_isWonBy rfl rfl rfl (by decide +kernel) ⟨Nat.le_of_ble_eq_true rfl, Nat.le_of_ble_eq_true rfl⟩ rfl rfl rfl (Nat.le_of_ble_eq_true rfl) dX7_share_108 (fun r30 u29 => ?_)
                    refine g_jn1 121 (fun (a31 : Int32) => [(0, .ref (ad 0)), (1, .int p1), (2, .int p2), (3, .int x7), (4, .int x8), (5, .int x9), (7, .int x26)]) (fun (a31 : Int32) => [.int a31]) (fun a31 u32 => ?_) (fun J121 hJ121 => ?_)
                    · skip
                      refine g_istore C 121 [(6, .int a31), (0, .ref (ad 0)), (1, .int p1), (2, .int p2), (3, .int x7), (4, .int x8), (5, .int x9), (7, .int x26)] dX7_share_121 (by decide) rfl ?_
                      refine g_iinc C 123 7 [(7, .int (x26 + (-1))), (6, .int a31), (0, .ref (ad 0)), (1, .int p1), (2, .int p2), (3, .int x7), (4, .int x8), (5, .int x9)] dX7_share_123 rfl rfl (by decide) rfl ?_
                      refine g_goto C 126 89 dX7_share_126 (by decide) ?_
                      exact g_sub _ [2, 3, 4, 5, 6, 7, 1, 0] rfl (hself28 a31 (x26 + (-1)) u32)
                    · skip
                      refine g_if_eq C 111 119 dX7_share_111 (by decide) ?_ ?_
                      · skip
                        refine g_iload C 119 6 dX7_share_119 rfl ?_
                        exact g_sub _ [0, 1, 2, 3, 4, 5, 7] rfl (hJ121 x25 u29)
                      · skip
                        refine g_iload C 114 7 dX7_share_114 rfl ?_
                        refine g_goto C 116 121 dX7_share_116 (by decide) ?_
                        exact g_sub _ [0, 1, 2, 3, 4, 5, 7] rfl (hJ121 x26 u29)
            · skip
              refine g_if_eq C 70 78 dX7_share_70 (by decide) ?_ ?_
              · skip
                refine g_iconst C 78 0 dX7_share_78 rfl ?_
                exact g_sub _ [0, 1, 2, 3, 4, 5] rfl (hJ79 0 u10)
              · skip
                refine g_bipush C 73 (-4) dX7_share_73 rfl ?_
                refine g_goto C 75 79 dX7_share_75 (by decide) ?_
                exact g_sub _ [0, 1, 2, 3, 4, 5] rfl (hJ79 (-4) u10)
      · skip
        refine g_bipush C 39 (-4) dX7_share_39 rfl ?_
        exact g_iret C 41 dX7_share_41
    · skip
      refine g_if_eq C 8 32 dX7_share_8 (by decide) ?_ ?_
      · skip
        exact g_sub _ [0, 1, 2] rfl (hJ32 u1)
      · skip
        refine g_iload_n C 11 2 dX7_share_11 rfl ?_
        refine g_i2l C 12 dX7_share_12 ?_
        refine g_ldc2 C 13 10 (by decide +kernel) dX7_share_13 ?_
        refine g_bipush C 16 9 dX7_share_16 rfl ?_
        refine g_aload_n C 18 0 dX7_share_18 rfl ?_
        refine gfM_X7_caseMany C 19 iX7 (List.mem_cons_of_mem _ (List.mem_append_right _ wgL_15_16.1)) dX7_share_19 ?_
        refine g_iadd C 22 dX7_share_22 ?_
        refine g_i2l C 23 dX7_share_23 ?_
        refine g_callSi (st := []) (As := [.long (Int32.toInt64 p2), .long 10, .long (Int32.toInt64 (9 + (u1.1 0)))]) C E0_ok E0_vm 24 3 (tX7_in F (Int32.toInt64 p2) 10 (Int32.toInt64 (9 + (u1.1 0))) u1) rfl gX7_share_X7_in rfl rfl rfl (by decide +kernel) ⟨Nat.le_of_ble_eq_true rfl, Nat.le_of_ble_eq_true rfl⟩ rfl (Nat.le_of_ble_eq_true rfl) dX7_share_24 (fun r34 u33 => ?_)
        refine g_if_ne C 27 32 dX7_share_27 (by decide) ?_ ?_
        · skip
          exact g_sub _ [0, 1, 2] rfl (hJ32 u33)
        · skip
          refine g_iconst C 30 (-1) dX7_share_30 rfl ?_
          exact g_iret C 31 dX7_share_31
def bX7_bitsOf_4 (F : Nat)  (self4 : Int32 → Int32 → St → Option (Int32 × St)) (x1 : Int32) (x2 : Int32) (u3 : St) : Option (Int32 × St) :=
  if x2 ≤ 0 then some (x1, u3) else vl (x1 + (x2 &&& 1)) (fun v5 => vl (x2 >>> (1 &&& 31)) (fun v6 => (self4 v5 v6 u3)))
def pX7_bitsOf (F : Nat) (p1 : Int32) (u : St) : Option (Int32 × St) :=
  (lq2 (bX7_bitsOf_4 F) F 0 p1 u)
set_option maxRecDepth 100000 in
set_option maxHeartbeats 4000000 in
theorem tX7_bitsOf {l : Launch} {D : va_G} {cI cZ : ClassId} {ad : Nat → Nat} (F : Nat) (p1 : Int32) (u : St) : CtI l D [(cI, .int), (cZ, .boolean)] (wM ad cI cZ) E0 yX7_bitsOf wsX7_bitsOf ({ frames := 0, cells := 0, slots := 0, locals := 0 } : Room) [.int p1] u (pX7_bitsOf F p1 u) := by
  refine ctI_of (own := RX7) (cc := cX7_bitsOf) (n := 3) (ret := (some .int)) (by decide) rfl rfl (Nat.le_of_ble_eq_true rfl) (lv := [(0, .int p1)]) rfl (fun C => ?_)
  rw [pX7_bitsOf]
  refine g_iconst C 0 0 dX7_bitsOf_0 rfl ?_
  refine g_istore_n C 1 [(1, .int 0), (0, .int p1)] dX7_bitsOf_1 (by decide) rfl ?_
  refine g_iload_n C 2 1 dX7_bitsOf_2 rfl ?_
  refine g_istore_n C 3 [(2, .int p1), (1, .int 0), (0, .int p1)] dX7_bitsOf_3 (by decide) rfl ?_
  refine g_sub _ [1, 0] rfl ?_
  refine g_lq2 (fun (x1 : Int32) (x2 : Int32) => [(1, .int x1), (2, .int x2)]) (fun self4 hself4 x1 x2 u3 => ?_) F 0 p1 u
  rw [bX7_bitsOf_4]
  refine g_iload_n C 4 1 dX7_bitsOf_4 rfl ?_
  refine g_if_le C 5 21 dX7_bitsOf_5 (by decide) ?_ ?_
  · skip
    refine g_iload_n C 21 0 dX7_bitsOf_21 rfl ?_
    exact g_iret C 22 dX7_bitsOf_22
  · skip
    refine g_iload_n C 8 0 dX7_bitsOf_8 rfl ?_
    refine g_iload_n C 9 1 dX7_bitsOf_9 rfl ?_
    refine g_iconst C 10 1 dX7_bitsOf_10 rfl ?_
    refine g_iand C 11 dX7_bitsOf_11 ?_
    refine g_iadd C 12 dX7_bitsOf_12 ?_
    refine g_istore_nV C 13 (fun v5 => [(1, .int v5), (2, .int x2)]) dX7_bitsOf_13 (by decide) (fun _ => rfl) (fun v5 => ?_)
    refine g_iload_n C 14 1 dX7_bitsOf_14 rfl ?_
    refine g_iconst C 15 1 dX7_bitsOf_15 rfl ?_
    refine g_ishr C 16 dX7_bitsOf_16 ?_
    refine g_istore_nV C 17 (fun v6 => [(2, .int v6), (1, .int v5)]) dX7_bitsOf_17 (by decide) (fun _ => rfl) (fun v6 => ?_)
    refine g_goto C 18 4 dX7_bitsOf_18 (by decide) ?_
    exact g_sub _ [1, 0] rfl (hself4 v5 v6 u3)
def pX7_wonThen (F : Nat) (p1 : Int32) (p2 : Int32) (u : St) : Option (Int32 × St) :=
  bd (pX7_docketGoes F p1 u) (fun (_ : Unit) (u1 : St) => bd (pX7_wonOn F 272 (p2 + 1) u1) (fun (r3 : Int32) (u2 : St) => bd (pX7_bitsOf F r3 u2) (fun (r5 : Int32) (u4 : St) => some (r5, u4))))
set_option maxRecDepth 100000 in
set_option maxHeartbeats 4000000 in
theorem tX7_wonThen {l : Launch} {D : va_G} {cI cZ : ClassId} {ad : Nat → Nat} (F : Nat) (p1 : Int32) (p2 : Int32) (u : St) : CtI l D [(cI, .int), (cZ, .boolean)] (wM ad cI cZ) E0 yX7_wonThen wsX7_wonThen ({ frames := 5, cells := 0, slots := 0, locals := 122 } : Room) [.ref (ad 0), .int p1, .int p2] u (pX7_wonThen F p1 p2 u) := by
  refine ctI_of (own := RX7) (cc := cX7_wonThen) (n := 3) (ret := (some .int)) (by decide) rfl rfl (Nat.le_of_ble_eq_true rfl) (lv := [(0, .ref (ad 0)), (1, .int p1), (2, .int p2)]) rfl (fun C => ?_)
  rw [pX7_wonThen]
  refine g_aload_n C 0 0 dX7_wonThen_0 rfl ?_
  refine g_iload_n C 1 1 dX7_wonThen_1 rfl ?_
  refine g_callVv (st := []) (As := [.int p1]) C E0_ok E0_vm 2 0 1 (tX7_docketGoes F p1 u) rfl gX7_wonThen_X7_docketGoes rfl rfl rfl (by decide +kernel) ⟨Nat.le_of_ble_eq_true rfl, Nat.le_of_ble_eq_true rfl⟩ rfl rfl rfl (Nat.le_of_ble_eq_true rfl) dX7_wonThen_2 (fun u1 => ?_)
  refine g_aload_n C 5 0 dX7_wonThen_5 rfl ?_
  refine g_sipush C 6 272 dX7_wonThen_6 rfl ?_
  refine g_iload_n C 9 2 dX7_wonThen_9 rfl ?_
  refine g_iconst C 10 1 dX7_wonThen_10 rfl ?_
  refine g_iadd C 11 dX7_wonThen_11 ?_
  refine g_callVi (st := []) (As := [.int 272, .int (p2 + 1)]) C E0_ok E0_vm 12 0 2 (tX7_wonOn F 272 (p2 + 1) u1) rfl gX7_wonThen_X7_wonOn rfl rfl rfl (by decide +kernel) ⟨Nat.le_of_ble_eq_true rfl, Nat.le_of_ble_eq_true rfl⟩ rfl rfl rfl (Nat.le_of_ble_eq_true rfl) dX7_wonThen_12 (fun r3 u2 => ?_)
  refine g_callSi (st := []) (As := [.int r3]) C E0_ok E0_vm 15 1 (tX7_bitsOf F r3 u2) rfl gX7_wonThen_X7_bitsOf rfl rfl rfl (by decide +kernel) ⟨Nat.le_of_ble_eq_true rfl, Nat.le_of_ble_eq_true rfl⟩ rfl (Nat.le_of_ble_eq_true rfl) dX7_wonThen_15 (fun r5 u4 => ?_)
  exact g_iret C 18 dX7_wonThen_18
def jX7_swap_169 (F : Nat) (p2 : Int32) (a7 : Int32) (a8 : Int32) (u9 : St) : Option (Int32 × St) :=
  if a8 = (-4) then some (a8, u9) else if p2 = 0 then some (a8, u9) else some (a7, u9)
def jX7_swap_163 (F : Nat) (x12 : Int32) (self14 : Int32 → Int32 → Int32 → St → Option (Int32 × St)) (a16 : Int32) (a17 : Int32) (u18 : St) : Option (Int32 × St) :=
  (self14 a16 a17 (x12 + 1) u18)
def bX7_swap_51 (F : Nat) (p1 : Int32) (x12 : Int32) (J163 : Int32 → Int32 → St → Option (Int32 × St)) (self23 : Int32 → Int32 → Int32 → St → Option (Int32 × St)) (x19 : Int32) (x20 : Int32) (x21 : Int32) (u22 : St) : Option (Int32 × St) :=
  gd (inb 55 408) (if (u22.2 0 (Int32.toNatClampNeg 55)) ≤ x21 then (J163 x19 x20 u22) else bd (pX7_copies F 0 340 u22) (fun (_ : Unit) (u24 : St) => gd (inb (62 + x21) 408) (gd (inb (402 + x12) 408) (vl (sta u24 0 (402 + x12) (u24.2 0 (Int32.toNatClampNeg (62 + x21)))) (fun (u25 : St) => gd (inb (62 + x12) 408) (gd (inb (402 + x21) 408) (vl (sta u25 0 (402 + x21) (u25.2 0 (Int32.toNatClampNeg (62 + x12)))) (fun (u26 : St) => bd (pX7_wonThen F 340 p1 u26) (fun (r28 : Int32) (u27 : St) => jn (fun (a29 : Int32) (u30 : St) => jn (fun (a31 : Int32) (u32 : St) => (self23 a31 a29 (x21 + 1) u32)) (fun (J156 : Int32 → St → Option (Int32 × St)) => if r28 ≤ x19 then (J156 x19 u30) else (J156 r28 u30))) (fun (J142 : Int32 → St → Option (Int32 × St)) => if r28 ≤ x19 then (J142 x20 u27) else (J142 ((10 * x12) + x21) u27)))))))))))
def bX7_swap_33 (F : Nat) (p1 : Int32) (J169 : Int32 → Int32 → St → Option (Int32 × St)) (self14 : Int32 → Int32 → Int32 → St → Option (Int32 × St)) (x10 : Int32) (x11 : Int32) (x12 : Int32) (u13 : St) : Option (Int32 × St) :=
  gd (inb 55 408) (if (u13.2 0 (Int32.toNatClampNeg 55)) ≤ x12 then (J169 x10 x11 u13) else vl (x12 + 1) (fun v15 => jn (jX7_swap_163 F x12 self14) (fun (J163 : Int32 → Int32 → St → Option (Int32 × St)) => (lq3 (bX7_swap_51 F p1 x12 J163) F x10 x11 v15 u13))))
def pX7_swap (F : Nat) (p1 : Int32) (p2 : Int32) (u : St) : Option (Int32 × St) :=
  bd (pX7_isSide F p1 u) (fun (r2 : Int32) (u1 : St) => if r2 = 0 then some ((-1), u1) else bd (pX7_in F (Int32.toInt64 p2) 0 1 u1) (fun (r4 : Int32) (u3 : St) => if r4 = 0 then some ((-1), u3) else bd (pX7_wonThen F 0 p1 u3) (fun (r6 : Int32) (u5 : St) => jn (jX7_swap_169 F p2) (fun (J169 : Int32 → Int32 → St → Option (Int32 × St)) => (lq3 (bX7_swap_33 F p1 J169) F r6 (-4) 0 u5)))))
set_option maxRecDepth 100000 in
set_option maxHeartbeats 4000000 in
theorem tX7_swap {l : Launch} {D : va_G} {cI cZ : ClassId} {ad : Nat → Nat} (F : Nat) (p1 : Int32) (p2 : Int32) (u : St) : CtI l D [(cI, .int), (cZ, .boolean)] (wM ad cI cZ) E0 yX7_swap wsX7_swap ({ frames := 6, cells := 0, slots := 0, locals := 144 } : Room) [.ref (ad 0), .int p1, .int p2] u (pX7_swap F p1 p2 u) := by
  refine ctI_of (own := RX7) (cc := cX7_swap) (n := 8) (ret := (some .int)) (by decide) rfl rfl (Nat.le_of_ble_eq_true rfl) (lv := [(0, .ref (ad 0)), (1, .int p1), (2, .int p2)]) rfl (fun C => ?_)
  have iX7 : ∀ w ∈ wsX70, w ∈ wsX7_swap := fun w h => List.mem_cons_of_mem _ (List.mem_append_right _ (inlX7 w h))
  rw [pX7_swap]
  refine g_iload_n C 0 1 dX7_swap_0 rfl ?_
  refine g_callSi (st := []) (As := [.int p1]) C E0_ok E0_vm 1 1 (tX7_isSide F p1 u) rfl gX7_swap_X7_isSide rfl rfl rfl (by decide +kernel) ⟨Nat.le_of_ble_eq_true rfl, Nat.le_of_ble_eq_true rfl⟩ rfl (Nat.le_of_ble_eq_true rfl) dX7_swap_1 (fun r2 u1 => ?_)
  refine g_if_eq C 4 17 dX7_swap_4 (by decide) ?_ ?_
  · skip
    refine g_iconst C 17 (-1) dX7_swap_17 rfl ?_
    exact g_iret C 18 dX7_swap_18
  · skip
    refine g_iload_n C 7 2 dX7_swap_7 rfl ?_
    refine g_i2l C 8 dX7_swap_8 ?_
    refine g_lconst C 9 0 dX7_swap_9 rfl ?_
    refine g_lconst C 10 1 dX7_swap_10 rfl ?_
    refine g_callSi (st := []) (As := [.long (Int32.toInt64 p2), .long 0, .long 1]) C E0_ok E0_vm 11 3 (tX7_in F (Int32.toInt64 p2) 0 1 u1) rfl gX7_swap_X7_in rfl rfl rfl (by decide +kernel) ⟨Nat.le_of_ble_eq_true rfl, Nat.le_of_ble_eq_true rfl⟩ rfl (Nat.le_of_ble_eq_true rfl) dX7_swap_11 (fun r4 u3 => ?_)
    refine g_if_ne C 14 19 dX7_swap_14 (by decide) ?_ ?_
    · skip
      refine g_aload_n C 19 0 dX7_swap_19 rfl ?_
      refine g_iconst C 20 0 dX7_swap_20 rfl ?_
      refine g_iload_n C 21 1 dX7_swap_21 rfl ?_
      refine g_callVi (st := []) (As := [.int 0, .int p1]) C E0_ok E0_vm 22 0 2 (tX7_wonThen F 0 p1 u3) rfl gX7_swap_X7_wonThen rfl rfl rfl (by decide +kernel) ⟨Nat.le_of_ble_eq_true rfl, Nat.le_of_ble_eq_true rfl⟩ rfl rfl rfl (Nat.le_of_ble_eq_true rfl) dX7_swap_22 (fun r6 u5 => ?_)
      refine g_istore_n C 25 [(3, .int r6), (0, .ref (ad 0)), (1, .int p1), (2, .int p2)] dX7_swap_25 (by decide) rfl ?_
      refine g_bipush C 26 (-4) dX7_swap_26 rfl ?_
      refine g_istore C 28 [(4, .int (-4)), (3, .int r6), (0, .ref (ad 0)), (1, .int p1), (2, .int p2)] dX7_swap_28 (by decide) rfl ?_
      refine g_iconst C 30 0 dX7_swap_30 rfl ?_
      refine g_istore C 31 [(5, .int 0), (4, .int (-4)), (3, .int r6), (0, .ref (ad 0)), (1, .int p1), (2, .int p2)] dX7_swap_31 (by decide) rfl ?_
      refine g_jn2 169 (fun (a7 : Int32) (a8 : Int32) => [(2, .int p2), (3, .int a7), (4, .int a8)]) (fun (a7 : Int32) (a8 : Int32) => []) (fun a7 a8 u9 => ?_) (fun J169 hJ169 => ?_)
      · skip
        rw [jX7_swap_169]
        refine g_iload C 169 2 dX7_swap_169 rfl ?_
        refine g_bipush C 171 (-4) dX7_swap_171 rfl ?_
        refine g_icmp_eq C 173 180 dX7_swap_173 (by decide) ?_ ?_
        · skip
          refine g_iload C 180 2 dX7_swap_180 rfl ?_
          refine g_goto C 182 186 dX7_swap_182 (by decide) ?_
          exact g_iret C 186 dX7_swap_186
        · skip
          refine g_iload_n C 176 0 dX7_swap_176 rfl ?_
          refine g_if_ne C 177 185 dX7_swap_177 (by decide) ?_ ?_
          · skip
            refine g_iload_n C 185 1 dX7_swap_185 rfl ?_
            exact g_iret C 186 dX7_swap_186
          · skip
            refine g_iload C 180 2 dX7_swap_180 rfl ?_
            refine g_goto C 182 186 dX7_swap_182 (by decide) ?_
            exact g_iret C 186 dX7_swap_186
      · skip
        refine g_sub _ [3, 4, 5, 2, 1, 0] rfl ?_
        refine g_lq3 (fun (x10 : Int32) (x11 : Int32) (x12 : Int32) => [(0, .ref (ad 0)), (1, .int p1), (2, .int p2), (3, .int x10), (4, .int x11), (5, .int x12)]) (fun self14 hself14 x10 x11 x12 u13 => ?_) F r6 (-4) 0 u5
        rw [bX7_swap_33]
        refine g_iload C 33 5 dX7_swap_33 rfl ?_
        refine g_aload_n C 35 0 dX7_swap_35 rfl ?_
        refine gfM_X7_state C 36 iX7 (List.mem_cons_of_mem _ (List.mem_append_right _ wgL_5_14.1)) dX7_swap_36 ?_
        refine g_bipush C 39 55 dX7_swap_39 rfl ?_
        refine g_iald C 41 (1 + 0) 0 (wM_arr 0 (by decide)) rfl dX7_swap_41 ?_
        refine g_icmp_ge C 42 169 dX7_swap_42 (by decide) ?_ ?_
        · skip
          exact g_sub _ [2, 3, 4] rfl (hJ169 x10 x11 u13)
        · skip
          refine g_iload C 45 5 dX7_swap_45 rfl ?_
          refine g_iconst C 47 1 dX7_swap_47 rfl ?_
          refine g_iadd C 48 dX7_swap_48 ?_
          refine g_istoreV C 49 (fun v15 => [(6, .int v15), (0, .ref (ad 0)), (1, .int p1), (2, .int p2), (3, .int x10), (4, .int x11), (5, .int x12)]) dX7_swap_49 (by decide) (fun _ => rfl) (fun v15 => ?_)
          refine g_jn2 163 (fun (a16 : Int32) (a17 : Int32) => [(0, .ref (ad 0)), (1, .int p1), (2, .int p2), (3, .int a16), (4, .int a17), (5, .int x12)]) (fun (a16 : Int32) (a17 : Int32) => []) (fun a16 a17 u18 => ?_) (fun J163 hJ163 => ?_)
          · skip
            rw [jX7_swap_163]
            refine g_iinc C 163 5 [(5, .int (x12 + 1)), (0, .ref (ad 0)), (1, .int p1), (2, .int p2), (3, .int a16), (4, .int a17)] dX7_swap_163 rfl rfl (by decide) rfl ?_
            refine g_goto C 166 33 dX7_swap_166 (by decide) ?_
            exact g_sub _ [1, 2, 3, 4, 5, 0] rfl (hself14 a16 a17 (x12 + 1) u18)
          · skip
            refine g_sub _ [1, 2, 3, 4, 5, 6, 0] rfl ?_
            refine g_lq3 (fun (x19 : Int32) (x20 : Int32) (x21 : Int32) => [(0, .ref (ad 0)), (1, .int p1), (2, .int p2), (3, .int x19), (4, .int x20), (5, .int x12), (6, .int x21)]) (fun self23 hself23 x19 x20 x21 u22 => ?_) F x10 x11 v15 u13
            rw [bX7_swap_51]
            refine g_iload C 51 6 dX7_swap_51 rfl ?_
            refine g_aload_n C 53 0 dX7_swap_53 rfl ?_
            refine gfM_X7_state C 54 iX7 (List.mem_cons_of_mem _ (List.mem_append_right _ wgL_5_14.1)) dX7_swap_54 ?_
            refine g_bipush C 57 55 dX7_swap_57 rfl ?_
            refine g_iald C 59 (1 + 0) 0 (wM_arr 0 (by decide)) rfl dX7_swap_59 ?_
            refine g_icmp_ge C 60 163 dX7_swap_60 (by decide) ?_ ?_
            · skip
              exact g_sub _ [0, 1, 2, 3, 4, 5] rfl (hJ163 x19 x20 u22)
            · skip
              refine g_aload_n C 63 0 dX7_swap_63 rfl ?_
              refine g_iconst C 64 0 dX7_swap_64 rfl ?_
              refine g_sipush C 65 340 dX7_swap_65 rfl ?_
              refine g_callVv (st := []) (As := [.int 0, .int 340]) C E0_ok E0_vm 68 0 2 (tX7_copies F 0 340 u22) rfl gX7_swap_X7_copies rfl rfl rfl (by decide +kernel) ⟨Nat.le_of_ble_eq_true rfl, Nat.le_of_ble_eq_true rfl⟩ rfl rfl rfl (Nat.le_of_ble_eq_true rfl) dX7_swap_68 (fun u24 => ?_)
              refine g_aload_n C 71 0 dX7_swap_71 rfl ?_
              refine gfM_X7_state C 72 iX7 (List.mem_cons_of_mem _ (List.mem_append_right _ wgL_5_14.1)) dX7_swap_72 ?_
              refine g_sipush C 75 402 dX7_swap_75 rfl ?_
              refine g_iload C 78 5 dX7_swap_78 rfl ?_
              refine g_iadd C 80 dX7_swap_80 ?_
              refine g_aload_n C 81 0 dX7_swap_81 rfl ?_
              refine gfM_X7_state C 82 iX7 (List.mem_cons_of_mem _ (List.mem_append_right _ wgL_5_14.1)) dX7_swap_82 ?_
              refine g_bipush C 85 62 dX7_swap_85 rfl ?_
              refine g_iload C 87 6 dX7_swap_87 rfl ?_
              refine g_iadd C 89 dX7_swap_89 ?_
              refine g_iald C 90 (1 + 0) 0 (wM_arr 0 (by decide)) rfl dX7_swap_90 ?_
              refine g_iast C 91 (1 + 0) 0 0 (wM_arr 0 (by decide)) (wM_aset 0 (by decide)) rfl dX7_swap_91 (fun u25 => ?_)
              refine g_aload_n C 92 0 dX7_swap_92 rfl ?_
              refine gfM_X7_state C 93 iX7 (List.mem_cons_of_mem _ (List.mem_append_right _ wgL_5_14.1)) dX7_swap_93 ?_
              refine g_sipush C 96 402 dX7_swap_96 rfl ?_
              refine g_iload C 99 6 dX7_swap_99 rfl ?_
              refine g_iadd C 101 dX7_swap_101 ?_
              refine g_aload_n C 102 0 dX7_swap_102 rfl ?_
              refine gfM_X7_state C 103 iX7 (List.mem_cons_of_mem _ (List.mem_append_right _ wgL_5_14.1)) dX7_swap_103 ?_
              refine g_bipush C 106 62 dX7_swap_106 rfl ?_
              refine g_iload C 108 5 dX7_swap_108 rfl ?_
              refine g_iadd C 110 dX7_swap_110 ?_
              refine g_iald C 111 (1 + 0) 0 (wM_arr 0 (by decide)) rfl dX7_swap_111 ?_
              refine g_iast C 112 (1 + 0) 0 0 (wM_arr 0 (by decide)) (wM_aset 0 (by decide)) rfl dX7_swap_112 (fun u26 => ?_)
              refine g_aload_n C 113 0 dX7_swap_113 rfl ?_
              refine g_sipush C 114 340 dX7_swap_114 rfl ?_
              refine g_iload_n C 117 1 dX7_swap_117 rfl ?_
              refine g_callVi (st := []) (As := [.int 340, .int p1]) C E0_ok E0_vm 118 0 2 (tX7_wonThen F 340 p1 u26) rfl gX7_swap_X7_wonThen rfl rfl rfl (by decide +kernel) ⟨Nat.le_of_ble_eq_true rfl, Nat.le_of_ble_eq_true rfl⟩ rfl rfl rfl (Nat.le_of_ble_eq_true rfl) dX7_swap_118 (fun r28 u27 => ?_)
              refine g_istore C 121 [(7, .int r28), (0, .ref (ad 0)), (1, .int p1), (2, .int p2), (3, .int x19), (4, .int x20), (5, .int x12), (6, .int x21)] dX7_swap_121 (by decide) rfl ?_
              refine g_iload C 123 0 dX7_swap_123 rfl ?_
              refine g_iload_n C 125 4 dX7_swap_125 rfl ?_
              refine g_jn1 142 (fun (a29 : Int32) => [(0, .ref (ad 0)), (1, .int p1), (2, .int p2), (3, .int x19), (5, .int x12), (6, .int x21), (7, .int r28)]) (fun (a29 : Int32) => [.int a29]) (fun a29 u30 => ?_) (fun J142 hJ142 => ?_)
              · skip
                refine g_istore C 142 [(4, .int a29), (0, .ref (ad 0)), (1, .int p1), (2, .int p2), (3, .int x19), (5, .int x12), (6, .int x21), (7, .int r28)] dX7_swap_142 (by decide) rfl ?_
                refine g_iload C 144 7 dX7_swap_144 rfl ?_
                refine g_iload_n C 146 4 dX7_swap_146 rfl ?_
                refine g_jn1 156 (fun (a31 : Int32) => [(0, .ref (ad 0)), (1, .int p1), (2, .int p2), (4, .int a29), (5, .int x12), (6, .int x21)]) (fun (a31 : Int32) => [.int a31]) (fun a31 u32 => ?_) (fun J156 hJ156 => ?_)
                · skip
                  refine g_istore_n C 156 [(3, .int a31), (0, .ref (ad 0)), (1, .int p1), (2, .int p2), (4, .int a29), (5, .int x12), (6, .int x21)] dX7_swap_156 (by decide) rfl ?_
                  refine g_iinc C 157 6 [(6, .int (x21 + 1)), (3, .int a31), (0, .ref (ad 0)), (1, .int p1), (2, .int p2), (4, .int a29), (5, .int x12)] dX7_swap_157 rfl rfl (by decide) rfl ?_
                  refine g_goto C 160 51 dX7_swap_160 (by decide) ?_
                  exact g_sub _ [2, 3, 4, 1, 5, 6, 0] rfl (hself23 a31 a29 (x21 + 1) u32)
                · skip
                  refine g_icmp_le C 147 155 dX7_swap_147 (by decide) ?_ ?_
                  · skip
                    refine g_iload_n C 155 4 dX7_swap_155 rfl ?_
                    exact g_sub _ [1, 2, 3, 0, 5, 6] rfl (hJ156 x19 u30)
                  · skip
                    refine g_iload C 150 7 dX7_swap_150 rfl ?_
                    refine g_goto C 152 156 dX7_swap_152 (by decide) ?_
                    exact g_sub _ [1, 2, 3, 0, 5, 6] rfl (hJ156 r28 u30)
              · skip
                refine g_icmp_le C 126 140 dX7_swap_126 (by decide) ?_ ?_
                · skip
                  refine g_iload C 140 5 dX7_swap_140 rfl ?_
                  exact g_sub _ [1, 2, 3, 4, 6, 7, 0] rfl (hJ142 x20 u27)
                · skip
                  refine g_bipush C 129 10 dX7_swap_129 rfl ?_
                  refine g_iload C 131 6 dX7_swap_131 rfl ?_
                  refine g_imul C 133 dX7_swap_133 ?_
                  refine g_iload C 134 7 dX7_swap_134 rfl ?_
                  refine g_iadd C 136 dX7_swap_136 ?_
                  refine g_goto C 137 142 dX7_swap_137 (by decide) ?_
                  exact g_sub _ [1, 2, 3, 4, 6, 7, 0] rfl (hJ142 ((10 * x12) + x21) u27)
    · skip
      refine g_iconst C 17 (-1) dX7_swap_17 rfl ?_
      exact g_iret C 18 dX7_swap_18
def jX7_lowest_31 (F : Nat) (p1 : Int64) (p2 : Int64) (p3 : Int32) (a1 : Int64) (u2 : St) : Option (Int64 × St) :=
  if p3 = 0 then gd (nzl a1) (some ((p1 / a1), u2)) else gd (nzl a1) (some ((p2 / a1), u2))
def bX7_lowest_6 (F : Nat) (J31 : Int64 → St → Option (Int64 × St)) (self6 : Int64 → Int64 → St → Option (Int64 × St)) (x3 : Int64) (x4 : Int64) (u5 : St) : Option (Int64 × St) :=
  if (lg_cmp x4 0) = 0 then (J31 x3 u5) else gd (nzl x4) (vl (lrm x3 x4) (fun v7 => (self6 x4 v7 u5)))
def pX7_lowest (F : Nat) (p1 : Int64) (p2 : Int64) (p3 : Int32) (u : St) : Option (Int64 × St) :=
  jn (jX7_lowest_31 F p1 p2 p3) (fun (J31 : Int64 → St → Option (Int64 × St)) => (lq2 (bX7_lowest_6 F J31) F p1 p2 u))
set_option maxRecDepth 100000 in
set_option maxHeartbeats 4000000 in
theorem tX7_lowest {l : Launch} {D : va_G} {cI cZ : ClassId} {ad : Nat → Nat} (F : Nat) (p1 : Int64) (p2 : Int64) (p3 : Int32) (u : St) : CtL l D [(cI, .int), (cZ, .boolean)] (wM ad cI cZ) E0 yX7_lowest wsX7_lowest ({ frames := 0, cells := 0, slots := 0, locals := 0 } : Room) [.long p1, .long p2, .int p3] u (pX7_lowest F p1 p2 p3 u) := by
  refine ctL_of (own := RX7) (cc := cX7_lowest) (n := 11) (ret := (some .long)) (by decide) rfl rfl (Nat.le_of_ble_eq_true rfl) (lv := [(0, .long p1), (2, .long p2), (4, .int p3)]) rfl (fun C => ?_)
  rw [pX7_lowest]
  refine g_lload_n C 0 0 dX7_lowest_0 rfl ?_
  refine g_lstore C 1 [(5, .long p1), (0, .long p1), (2, .long p2), (4, .int p3)] dX7_lowest_1 (by decide) rfl ?_
  refine g_lload_n C 3 2 dX7_lowest_3 rfl ?_
  refine g_lstore C 4 [(7, .long p2), (5, .long p1), (0, .long p1), (2, .long p2), (4, .int p3)] dX7_lowest_4 (by decide) rfl ?_
  refine g_jn1 31 (fun (a1 : Int64) => [(0, .long p1), (2, .long p2), (4, .int p3), (5, .long a1)]) (fun (a1 : Int64) => []) (fun a1 u2 => ?_) (fun J31 hJ31 => ?_)
  · skip
    rw [jX7_lowest_31]
    refine g_iload C 31 2 dX7_lowest_31 rfl ?_
    refine g_if_ne C 33 40 dX7_lowest_33 (by decide) ?_ ?_
    · skip
      refine g_lload_n C 40 1 dX7_lowest_40 rfl ?_
      refine g_lload C 41 3 dX7_lowest_41 rfl ?_
      refine g_ldiv C 43 dX7_lowest_43 ?_
      exact g_lret C 44 dX7_lowest_44
    · skip
      refine g_lload_n C 36 0 dX7_lowest_36 rfl ?_
      refine g_goto C 37 41 dX7_lowest_37 (by decide) ?_
      refine g_lload C 41 3 dX7_lowest_41 rfl ?_
      refine g_ldiv C 43 dX7_lowest_43 ?_
      exact g_lret C 44 dX7_lowest_44
  · skip
    refine g_sub _ [2, 3, 4, 1, 0] rfl ?_
    refine g_lq2 (fun (x3 : Int64) (x4 : Int64) => [(0, .long p1), (2, .long p2), (4, .int p3), (5, .long x3), (7, .long x4)]) (fun self6 hself6 x3 x4 u5 => ?_) F p1 p2 u
    rw [bX7_lowest_6]
    refine g_lload C 6 4 dX7_lowest_6 rfl ?_
    refine g_lconst C 8 0 dX7_lowest_8 rfl ?_
    refine g_lcmp C 9 dX7_lowest_9 ?_
    refine g_if_eq C 10 31 dX7_lowest_10 (by decide) ?_ ?_
    · skip
      exact g_sub _ [0, 1, 2, 3] rfl (hJ31 x3 u5)
    · skip
      refine g_lload C 13 3 dX7_lowest_13 rfl ?_
      refine g_lload C 15 4 dX7_lowest_15 rfl ?_
      refine g_lrem C 17 dX7_lowest_17 ?_
      refine g_lstoreV C 18 (fun v7 => [(9, .long v7), (0, .long p1), (2, .long p2), (4, .int p3), (5, .long x3), (7, .long x4)]) dX7_lowest_18 (by decide) (fun _ => rfl) (fun v7 => ?_)
      refine g_lload C 20 5 dX7_lowest_20 rfl ?_
      refine g_lstore C 22 [(5, .long x4), (9, .long v7), (0, .long p1), (2, .long p2), (4, .int p3), (7, .long x4)] dX7_lowest_22 (by decide) rfl ?_
      refine g_lload C 24 1 dX7_lowest_24 rfl ?_
      refine g_lstore C 26 [(7, .long v7), (5, .long x4), (9, .long v7), (0, .long p1), (2, .long p2), (4, .int p3)] dX7_lowest_26 (by decide) rfl ?_
      refine g_goto C 28 6 dX7_lowest_28 (by decide) ?_
      exact g_sub _ [3, 4, 5, 1, 0] rfl (hself6 x4 v7 u5)
