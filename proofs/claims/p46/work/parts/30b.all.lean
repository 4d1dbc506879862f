section
def pX7_hand (F : Nat) (p1 : Int32) (p2 : Int32) (p3 : Int32) (u : St) : Option (Int32 × St) :=
  bd (pX7_leastOf F p1 p2 p3 16 9 u) (fun (r2 : Int32) (u1 : St) => some (r2, u1))
set_option maxRecDepth 100000 in
set_option maxHeartbeats 4000000 in
theorem tX7_hand {l : Launch} {D : va_G} {cI cZ : ClassId} {ad : Nat → Nat} (F : Nat) (p1 : Int32) (p2 : Int32) (p3 : Int32) (u : St) : CtI l D [(cI, .int), (cZ, .boolean)] (wM ad cI cZ) E0 yX7_hand wsX7_hand ({ frames := 6, cells := 0, slots := 0, locals := 148 } : Room) [.ref (ad 0), .int p1, .int p2, .int p3] u (pX7_hand F p1 p2 p3 u) := by
  refine ctI_of (own := RX7) (cc := cX7_hand) (n := 4) (ret := (some .int)) (by decide) rfl rfl (Nat.le_of_ble_eq_true rfl) (lv := [(0, .ref (ad 0)), (1, .int p1), (2, .int p2), (3, .int p3)]) rfl (fun C => ?_)
  rw [pX7_hand]
  refine g_aload_n C 0 0 dX7_hand_0 rfl ?_
  refine g_iload_n C 1 1 dX7_hand_1 rfl ?_
  refine g_iload_n C 2 2 dX7_hand_2 rfl ?_
  refine g_iload_n C 3 3 dX7_hand_3 rfl ?_
  refine g_bipush C 4 16 dX7_hand_4 rfl ?_
  refine g_bipush C 6 9 dX7_hand_6 rfl ?_
  refine g_callVi (st := []) (As := [.int p1, .int p2, .int p3, .int 16, .int 9]) C E0_ok E0_vm 8 0 5 (tX7_leastOf F p1 p2 p3 16 9 u) rfl gX7_hand_X7_leastOf rfl rfl rfl (by decide +kernel) ⟨Nat.le_of_ble_eq_true rfl, Nat.le_of_ble_eq_true rfl⟩ rfl rfl rfl (Nat.le_of_ble_eq_true rfl) dX7_hand_8 (fun r2 u1 => ?_)
  exact g_iret C 11 dX7_hand_11
def jX7_turn_91 (F : Nat)  (a7 : Int32) (u8 : St) : Option (Int32 × St) :=
  vl (stf u8 17 0) (fun (u9 : St) => some (a7, u9))
def bX7_turn_39 (F : Nat) (p1 : Int32) (p2 : Int32) (p3 : Int32) (r6 : Int32) (J91 : Int32 → St → Option (Int32 × St)) (self13 : Int32 → Int32 → St → Option (Int32 × St)) (x10 : Int32) (x11 : Int32) (u12 : St) : Option (Int32 × St) :=
  if 20 < x11 then (J91 x10 u12) else if x10 = (-4) then vl (stf u12 16 x11) (fun (u14 : St) => vl (stf u14 17 p3) (fun (u15 : St) => bd (pX7_tries F 0 p1 p2 u15) (fun (r17 : Int32) (u16 : St) => jn (fun (a18 : Int32) (u19 : St) => (self13 a18 (x11 + 1) u19)) (fun (J83 : Int32 → St → Option (Int32 × St)) => if r17 = r6 then (J83 (-4) u16) else (J83 x11 u16))))) else (J91 x10 u12)
def pX7_turn (F : Nat) (p1 : Int32) (p2 : Int32) (p3 : Int32) (u : St) : Option (Int32 × St) :=
  bd (pX7_isHeard F p1 p2 u) (fun (r2 : Int32) (u1 : St) => if r2 = 0 then some ((-1), u1) else bd (pX7_in F (Int32.toInt64 p3) 1 9 u1) (fun (r4 : Int32) (u3 : St) => if r4 = 0 then some ((-1), u3) else bd (pX7_tries F 0 p1 p2 u3) (fun (r6 : Int32) (u5 : St) => jn (jX7_turn_91 F) (fun (J91 : Int32 → St → Option (Int32 × St)) => (lq2 (bX7_turn_39 F p1 p2 p3 r6 J91) F (-4) 0 u5)))))
set_option maxRecDepth 100000 in
set_option maxHeartbeats 4000000 in
theorem tX7_turn {l : Launch} {D : va_G} {cI cZ : ClassId} {ad : Nat → Nat} (F : Nat) (p1 : Int32) (p2 : Int32) (p3 : Int32) (u : St) : CtI l D [(cI, .int), (cZ, .boolean)] (wM ad cI cZ) E0 yX7_turn wsX7_turn ({ frames := 4, cells := 0, slots := 0, locals := 98 } : Room) [.ref (ad 0), .int p1, .int p2, .int p3] u (pX7_turn F p1 p2 p3 u) := by
  refine ctI_of (own := RX7) (cc := cX7_turn) (n := 7) (ret := (some .int)) (by decide) rfl rfl (Nat.le_of_ble_eq_true rfl) (lv := [(0, .ref (ad 0)), (1, .int p1), (2, .int p2), (3, .int p3)]) rfl (fun C => ?_)
  have iX7 : ∀ w ∈ wsX70, w ∈ wsX7_turn := fun w h => List.mem_cons_of_mem _ (List.mem_append_right _ (inlX7 w h))
  rw [pX7_turn]
  refine g_aload_n C 0 0 dX7_turn_0 rfl ?_
  refine g_iload_n C 1 1 dX7_turn_1 rfl ?_
  refine g_iload_n C 2 2 dX7_turn_2 rfl ?_
  refine g_callVi (st := []) (As := [.int p1, .int p2]) C E0_ok E0_vm 3 0 2 (tX7_isHeard F p1 p2 u) rfl gX7_turn_X7_isHeard rfl rfl rfl (by decide +kernel) ⟨Nat.le_of_ble_eq_true rfl, Nat.le_of_ble_eq_true rfl⟩ rfl rfl rfl (Nat.le_of_ble_eq_true rfl) dX7_turn_3 (fun r2 u1 => ?_)
  refine g_if_eq C 6 21 dX7_turn_6 (by decide) ?_ ?_
  · skip
    refine g_iconst C 21 (-1) dX7_turn_21 rfl ?_
    exact g_iret C 22 dX7_turn_22
  · skip
    refine g_iload_n C 9 3 dX7_turn_9 rfl ?_
    refine g_i2l C 10 dX7_turn_10 ?_
    refine g_lconst C 11 1 dX7_turn_11 rfl ?_
    refine g_ldc2 C 12 9 (by decide +kernel) dX7_turn_12 ?_
    refine g_callSi (st := []) (As := [.long (Int32.toInt64 p3), .long 1, .long 9]) C E0_ok E0_vm 15 3 (tX7_in F (Int32.toInt64 p3) 1 9 u1) rfl gX7_turn_X7_in rfl rfl rfl (by decide +kernel) ⟨Nat.le_of_ble_eq_true rfl, Nat.le_of_ble_eq_true rfl⟩ rfl (Nat.le_of_ble_eq_true rfl) dX7_turn_15 (fun r4 u3 => ?_)
    refine g_if_ne C 18 23 dX7_turn_18 (by decide) ?_ ?_
    · skip
      refine g_aload_n C 23 0 dX7_turn_23 rfl ?_
      refine g_iconst C 24 0 dX7_turn_24 rfl ?_
      refine g_iload_n C 25 1 dX7_turn_25 rfl ?_
      refine g_iload_n C 26 2 dX7_turn_26 rfl ?_
      refine g_callVi (st := []) (As := [.int 0, .int p1, .int p2]) C E0_ok E0_vm 27 0 3 (tX7_tries F 0 p1 p2 u3) rfl gX7_turn_X7_tries rfl rfl rfl (by decide +kernel) ⟨Nat.le_of_ble_eq_true rfl, Nat.le_of_ble_eq_true rfl⟩ rfl rfl rfl (Nat.le_of_ble_eq_true rfl) dX7_turn_27 (fun r6 u5 => ?_)
      refine g_istore C 30 [(4, .int r6), (0, .ref (ad 0)), (1, .int p1), (2, .int p2), (3, .int p3)] dX7_turn_30 (by decide) rfl ?_
      refine g_bipush C 32 (-4) dX7_turn_32 rfl ?_
      refine g_istore C 34 [(5, .int (-4)), (4, .int r6), (0, .ref (ad 0)), (1, .int p1), (2, .int p2), (3, .int p3)] dX7_turn_34 (by decide) rfl ?_
      refine g_iconst C 36 0 dX7_turn_36 rfl ?_
      refine g_istore C 37 [(6, .int 0), (5, .int (-4)), (4, .int r6), (0, .ref (ad 0)), (1, .int p1), (2, .int p2), (3, .int p3)] dX7_turn_37 (by decide) rfl ?_
      refine g_jn1 91 (fun (a7 : Int32) => [(0, .ref (ad 0)), (5, .int a7)]) (fun (a7 : Int32) => []) (fun a7 u8 => ?_) (fun J91 hJ91 => ?_)
      · skip
        rw [jX7_turn_91]
        refine g_aload_n C 91 0 dX7_turn_91 rfl ?_
        refine g_iconst C 92 0 dX7_turn_92 rfl ?_
        refine pfM_X7_moreStrength C 93 iX7 (List.mem_cons_of_mem _ (List.mem_append_right _ wgL_28_1.1)) dX7_turn_93 (fun u9 => ?_)
        refine g_iload C 96 1 dX7_turn_96 rfl ?_
        exact g_iret C 98 dX7_turn_98
      · skip
        refine g_sub _ [3, 4, 5, 6, 2, 1, 0] rfl ?_
        refine g_lq2 (fun (x10 : Int32) (x11 : Int32) => [(0, .ref (ad 0)), (1, .int p1), (2, .int p2), (3, .int p3), (4, .int r6), (5, .int x10), (6, .int x11)]) (fun self13 hself13 x10 x11 u12 => ?_) F (-4) 0 u5
        rw [bX7_turn_39]
        refine g_iload C 39 6 dX7_turn_39 rfl ?_
        refine g_bipush C 41 20 dX7_turn_41 rfl ?_
        refine g_icmp_gt C 43 91 dX7_turn_43 (by decide) ?_ ?_
        · skip
          exact g_sub _ [0, 5] rfl (hJ91 x10 u12)
        · skip
          refine g_iload C 46 5 dX7_turn_46 rfl ?_
          refine g_bipush C 48 (-4) dX7_turn_48 rfl ?_
          refine g_icmp_ne C 50 91 dX7_turn_50 (by decide) ?_ ?_
          · skip
            exact g_sub _ [0, 5] rfl (hJ91 x10 u12)
          · skip
            refine g_aload_n C 53 0 dX7_turn_53 rfl ?_
            refine g_iload C 54 6 dX7_turn_54 rfl ?_
            refine pfM_X7_moreMinute C 56 iX7 (List.mem_cons_of_mem _ (List.mem_append_right _ wgL_28_2.1)) dX7_turn_56 (fun u14 => ?_)
            refine g_aload_n C 59 0 dX7_turn_59 rfl ?_
            refine g_iload_n C 60 3 dX7_turn_60 rfl ?_
            refine pfM_X7_moreStrength C 61 iX7 (List.mem_cons_of_mem _ (List.mem_append_right _ wgL_28_1.1)) dX7_turn_61 (fun u15 => ?_)
            refine g_aload_n C 64 0 dX7_turn_64 rfl ?_
            refine g_iconst C 65 0 dX7_turn_65 rfl ?_
            refine g_iload_n C 66 1 dX7_turn_66 rfl ?_
            refine g_iload_n C 67 2 dX7_turn_67 rfl ?_
            refine g_callVi (st := []) (As := [.int 0, .int p1, .int p2]) C E0_ok E0_vm 68 0 3 (tX7_tries F 0 p1 p2 u15) rfl gX7_turn_X7_tries rfl rfl rfl (by decide +kernel) ⟨Nat.le_of_ble_eq_true rfl, Nat.le_of_ble_eq_true rfl⟩ rfl rfl rfl (Nat.le_of_ble_eq_true rfl) dX7_turn_68 (fun r17 u16 => ?_)
            refine g_iload C 71 4 dX7_turn_71 rfl ?_
            refine g_jn1 83 (fun (a18 : Int32) => [(0, .ref (ad 0)), (1, .int p1), (2, .int p2), (3, .int p3), (4, .int r6), (6, .int x11)]) (fun (a18 : Int32) => [.int a18]) (fun a18 u19 => ?_) (fun J83 hJ83 => ?_)
            · skip
              refine g_istore C 83 [(5, .int a18), (0, .ref (ad 0)), (1, .int p1), (2, .int p2), (3, .int p3), (4, .int r6), (6, .int x11)] dX7_turn_83 (by decide) rfl ?_
              refine g_iinc C 85 6 [(6, .int (x11 + 1)), (5, .int a18), (0, .ref (ad 0)), (1, .int p1), (2, .int p2), (3, .int p3), (4, .int r6)] dX7_turn_85 rfl rfl (by decide) rfl ?_
              refine g_goto C 88 39 dX7_turn_88 (by decide) ?_
              exact g_sub _ [2, 3, 4, 5, 6, 1, 0] rfl (hself13 a18 (x11 + 1) u19)
            · skip
              refine g_icmp_eq C 73 81 dX7_turn_73 (by decide) ?_ ?_
              · skip
                refine g_bipush C 81 (-4) dX7_turn_81 rfl ?_
                exact g_sub _ [0, 1, 2, 3, 4, 6] rfl (hJ83 (-4) u16)
              · skip
                refine g_iload C 76 6 dX7_turn_76 rfl ?_
                refine g_goto C 78 83 dX7_turn_78 (by decide) ?_
                exact g_sub _ [0, 1, 2, 3, 4, 6] rfl (hJ83 x11 u16)
    · skip
      refine g_iconst C 21 (-1) dX7_turn_21 rfl ?_
      exact g_iret C 22 dX7_turn_22
def pX7_byGuards (F : Nat) (p1 : Int32) (p2 : Int32) (p3 : Int32) (p4 : Int32) (u : St) : Option (Int32 × St) :=
  bd (pX7_copies F 0 340 u) (fun (_ : Unit) (u1 : St) => gd (inb (356 + (2 * p1)) 408) (vl (sta u1 0 (356 + (2 * p1)) p3) (fun (u2 : St) => gd (inb ((356 + (2 * p1)) + 1) 408) (vl (sta u2 0 ((356 + (2 * p1)) + 1) p4) (fun (u3 : St) => bd (pX7_tries F 340 p1 p2 u3) (fun (r5 : Int32) (u4 : St) => some (r5, u4)))))))
set_option maxRecDepth 100000 in
set_option maxHeartbeats 4000000 in
theorem tX7_byGuards {l : Launch} {D : va_G} {cI cZ : ClassId} {ad : Nat → Nat} (F : Nat) (p1 : Int32) (p2 : Int32) (p3 : Int32) (p4 : Int32) (u : St) : CtI l D [(cI, .int), (cZ, .boolean)] (wM ad cI cZ) E0 yX7_byGuards wsX7_byGuards ({ frames := 4, cells := 0, slots := 0, locals := 98 } : Room) [.ref (ad 0), .int p1, .int p2, .int p3, .int p4] u (pX7_byGuards F p1 p2 p3 p4 u) := by
  refine ctI_of (own := RX7) (cc := cX7_byGuards) (n := 5) (ret := (some .int)) (by decide) rfl rfl (Nat.le_of_ble_eq_true rfl) (lv := [(0, .ref (ad 0)), (1, .int p1), (2, .int p2), (3, .int p3), (4, .int p4)]) rfl (fun C => ?_)
  have iX7 : ∀ w ∈ wsX70, w ∈ wsX7_byGuards := fun w h => List.mem_cons_of_mem _ (List.mem_append_right _ (inlX7 w h))
  rw [pX7_byGuards]
  refine g_aload_n C 0 0 dX7_byGuards_0 rfl ?_
  refine g_iconst C 1 0 dX7_byGuards_1 rfl ?_
  refine g_sipush C 2 340 dX7_byGuards_2 rfl ?_
  refine g_callVv (st := []) (As := [.int 0, .int 340]) C E0_ok E0_vm 5 0 2 (tX7_copies F 0 340 u) rfl gX7_byGuards_X7_copies rfl rfl rfl (by decide +kernel) ⟨Nat.le_of_ble_eq_true rfl, Nat.le_of_ble_eq_true rfl⟩ rfl rfl rfl (Nat.le_of_ble_eq_true rfl) dX7_byGuards_5 (fun u1 => ?_)
  refine g_aload_n C 8 0 dX7_byGuards_8 rfl ?_
  refine gfM_X7_state C 9 iX7 (List.mem_cons_of_mem _ (List.mem_append_right _ wgL_5_14.1)) dX7_byGuards_9 ?_
  refine g_sipush C 12 356 dX7_byGuards_12 rfl ?_
  refine g_iconst C 15 2 dX7_byGuards_15 rfl ?_
  refine g_iload_n C 16 1 dX7_byGuards_16 rfl ?_
  refine g_imul C 17 dX7_byGuards_17 ?_
  refine g_iadd C 18 dX7_byGuards_18 ?_
  refine g_iload_n C 19 3 dX7_byGuards_19 rfl ?_
  refine g_iast C 20 (1 + 0) 0 0 (wM_arr 0 (by decide)) (wM_aset 0 (by decide)) rfl dX7_byGuards_20 (fun u2 => ?_)
  refine g_aload_n C 21 0 dX7_byGuards_21 rfl ?_
  refine gfM_X7_state C 22 iX7 (List.mem_cons_of_mem _ (List.mem_append_right _ wgL_5_14.1)) dX7_byGuards_22 ?_
  refine g_sipush C 25 356 dX7_byGuards_25 rfl ?_
  refine g_iconst C 28 2 dX7_byGuards_28 rfl ?_
  refine g_iload_n C 29 1 dX7_byGuards_29 rfl ?_
  refine g_imul C 30 dX7_byGuards_30 ?_
  refine g_iadd C 31 dX7_byGuards_31 ?_
  refine g_iconst C 32 1 dX7_byGuards_32 rfl ?_
  refine g_iadd C 33 dX7_byGuards_33 ?_
  refine g_iload C 34 4 dX7_byGuards_34 rfl ?_
  refine g_iast C 36 (1 + 0) 0 0 (wM_arr 0 (by decide)) (wM_aset 0 (by decide)) rfl dX7_byGuards_36 (fun u3 => ?_)
  refine g_aload_n C 37 0 dX7_byGuards_37 rfl ?_
  refine g_sipush C 38 340 dX7_byGuards_38 rfl ?_
  refine g_iload_n C 41 1 dX7_byGuards_41 rfl ?_
  refine g_iload_n C 42 2 dX7_byGuards_42 rfl ?_
  refine g_callVi (st := []) (As := [.int 340, .int p1, .int p2]) C E0_ok E0_vm 43 0 3 (tX7_tries F 340 p1 p2 u3) rfl gX7_byGuards_X7_tries rfl rfl rfl (by decide +kernel) ⟨Nat.le_of_ble_eq_true rfl, Nat.le_of_ble_eq_true rfl⟩ rfl rfl rfl (Nat.le_of_ble_eq_true rfl) dX7_byGuards_43 (fun r5 u4 => ?_)
  exact g_iret C 46 dX7_byGuards_46
def jX7_sure_93 (F : Nat) (x5 : Int32) (self7 : Int32 → St → Option (Int32 × St)) (a8 : Int32) (u9 : St) : Option (Int32 × St) :=
  if a8 = 0 then (self7 (x5 + 1) u9) else some (x5, u9)
def bX7_sure_34 (F : Nat) (p1 : Int32) (p2 : Int32) (p3 : Int32) (x5 : Int32) (J93 : Int32 → St → Option (Int32 × St)) (self13 : Int32 → Int32 → St → Option (Int32 × St)) (x10 : Int32) (x11 : Int32) (u12 : St) : Option (Int32 × St) :=
  if 9 < x11 then (J93 x10 u12) else jn (fun (a14 : Int32) (u15 : St) => (self13 a14 (x11 + 1) u15)) (fun (J85 : Int32 → St → Option (Int32 × St)) => jn (fun (u16 : St) => (J85 0 u16)) (fun (J84 : St → Option (Int32 × St)) => if x10 = 0 then (J84 u12) else jn (fun (a17 : Int32) (u18 : St) => jn (fun (a19 : Int32) (u20 : St) => bd (pX7_byGuards F p1 p3 a17 a19 u20) (fun (r22 : Int32) (u21 : St) => if r22 = (p2 + 1) then (J85 1 u21) else (J84 u21))) (fun (J71 : Int32 → St → Option (Int32 × St)) => if p2 = 0 then (J71 x11 u18) else (J71 x5 u18))) (fun (J60 : Int32 → St → Option (Int32 × St)) => if p2 = 0 then (J60 x5 u12) else (J60 x11 u12))))
def bX7_sure_21 (F : Nat) (p1 : Int32) (p2 : Int32) (p3 : Int32) (self7 : Int32 → St → Option (Int32 × St)) (x5 : Int32) (u6 : St) : Option (Int32 × St) :=
  if 9 < x5 then some ((-4), u6) else jn (jX7_sure_93 F x5 self7) (fun (J93 : Int32 → St → Option (Int32 × St)) => (lq2 (bX7_sure_34 F p1 p2 p3 x5 J93) F 1 0 u6))
def pX7_sure (F : Nat) (p1 : Int32) (p2 : Int32) (p3 : Int32) (u : St) : Option (Int32 × St) :=
  bd (pX7_isHeard F p1 p3 u) (fun (r2 : Int32) (u1 : St) => if r2 = 0 then some ((-1), u1) else bd (pX7_isSide F p2 u1) (fun (r4 : Int32) (u3 : St) => if r4 = 0 then some ((-1), u3) else (lq1 (bX7_sure_21 F p1 p2 p3) F 0 u3)))
set_option maxRecDepth 100000 in
set_option maxHeartbeats 4000000 in
theorem tX7_sure {l : Launch} {D : va_G} {cI cZ : ClassId} {ad : Nat → Nat} (F : Nat) (p1 : Int32) (p2 : Int32) (p3 : Int32) (u : St) : CtI l D [(cI, .int), (cZ, .boolean)] (wM ad cI cZ) E0 yX7_sure wsX7_sure ({ frames := 5, cells := 0, slots := 0, locals := 122 } : Room) [.ref (ad 0), .int p1, .int p2, .int p3] u (pX7_sure F p1 p2 p3 u) := by
  refine ctI_of (own := RX7) (cc := cX7_sure) (n := 7) (ret := (some .int)) (by decide) rfl rfl (Nat.le_of_ble_eq_true rfl) (lv := [(0, .ref (ad 0)), (1, .int p1), (2, .int p2), (3, .int p3)]) rfl (fun C => ?_)
  rw [pX7_sure]
  refine g_aload_n C 0 0 dX7_sure_0 rfl ?_
  refine g_iload_n C 1 1 dX7_sure_1 rfl ?_
  refine g_iload_n C 2 3 dX7_sure_2 rfl ?_
  refine g_callVi (st := []) (As := [.int p1, .int p3]) C E0_ok E0_vm 3 0 2 (tX7_isHeard F p1 p3 u) rfl gX7_sure_X7_isHeard rfl rfl rfl (by decide +kernel) ⟨Nat.le_of_ble_eq_true rfl, Nat.le_of_ble_eq_true rfl⟩ rfl rfl rfl (Nat.le_of_ble_eq_true rfl) dX7_sure_3 (fun r2 u1 => ?_)
  refine g_if_eq C 6 16 dX7_sure_6 (by decide) ?_ ?_
  · skip
    refine g_iconst C 16 (-1) dX7_sure_16 rfl ?_
    exact g_iret C 17 dX7_sure_17
  · skip
    refine g_iload_n C 9 2 dX7_sure_9 rfl ?_
    refine g_callSi (st := []) (As := [.int p2]) C E0_ok E0_vm 10 1 (tX7_isSide F p2 u1) rfl gX7_sure_X7_isSide rfl rfl rfl (by decide +kernel) ⟨Nat.le_of_ble_eq_true rfl, Nat.le_of_ble_eq_true rfl⟩ rfl (Nat.le_of_ble_eq_true rfl) dX7_sure_10 (fun r4 u3 => ?_)
    refine g_if_ne C 13 18 dX7_sure_13 (by decide) ?_ ?_
    · skip
      refine g_iconst C 18 0 dX7_sure_18 rfl ?_
      refine g_istore C 19 [(4, .int 0), (0, .ref (ad 0)), (1, .int p1), (2, .int p2), (3, .int p3)] dX7_sure_19 (by decide) rfl ?_
      refine g_sub _ [1, 2, 3, 4, 0] rfl ?_
      refine g_lq1 (fun (x5 : Int32) => [(0, .ref (ad 0)), (1, .int p1), (2, .int p2), (3, .int p3), (4, .int x5)]) (fun self7 hself7 x5 u6 => ?_) F 0 u3
      rw [bX7_sure_21]
      refine g_iload C 21 4 dX7_sure_21 rfl ?_
      refine g_bipush C 23 9 dX7_sure_23 rfl ?_
      refine g_icmp_gt C 25 107 dX7_sure_25 (by decide) ?_ ?_
      · skip
        refine g_bipush C 107 (-4) dX7_sure_107 rfl ?_
        exact g_iret C 109 dX7_sure_109
      · skip
        refine g_iconst C 28 1 dX7_sure_28 rfl ?_
        refine g_istore C 29 [(5, .int 1), (0, .ref (ad 0)), (1, .int p1), (2, .int p2), (3, .int p3), (4, .int x5)] dX7_sure_29 (by decide) rfl ?_
        refine g_iconst C 31 0 dX7_sure_31 rfl ?_
        refine g_istore C 32 [(6, .int 0), (5, .int 1), (0, .ref (ad 0)), (1, .int p1), (2, .int p2), (3, .int p3), (4, .int x5)] dX7_sure_32 (by decide) rfl ?_
        refine g_jn1 93 (fun (a8 : Int32) => [(0, .ref (ad 0)), (1, .int p1), (2, .int p2), (3, .int p3), (4, .int x5), (5, .int a8)]) (fun (a8 : Int32) => []) (fun a8 u9 => ?_) (fun J93 hJ93 => ?_)
        · skip
          rw [jX7_sure_93]
          refine g_iload C 93 5 dX7_sure_93 rfl ?_
          refine g_if_eq C 95 101 dX7_sure_95 (by decide) ?_ ?_
          · skip
            refine g_iinc C 101 4 [(4, .int (x5 + 1)), (0, .ref (ad 0)), (1, .int p1), (2, .int p2), (3, .int p3), (5, .int a8)] dX7_sure_101 rfl rfl (by decide) rfl ?_
            refine g_goto C 104 21 dX7_sure_104 (by decide) ?_
            exact g_sub _ [1, 2, 3, 4, 0] rfl (hself7 (x5 + 1) u9)
          · skip
            refine g_iload C 98 4 dX7_sure_98 rfl ?_
            exact g_iret C 100 dX7_sure_100
        · skip
          refine g_sub _ [2, 3, 4, 5, 6, 1, 0] rfl ?_
          refine g_lq2 (fun (x10 : Int32) (x11 : Int32) => [(0, .ref (ad 0)), (1, .int p1), (2, .int p2), (3, .int p3), (4, .int x5), (5, .int x10), (6, .int x11)]) (fun self13 hself13 x10 x11 u12 => ?_) F 1 0 u6
          rw [bX7_sure_34]
          refine g_iload C 34 6 dX7_sure_34 rfl ?_
          refine g_bipush C 36 9 dX7_sure_36 rfl ?_
          refine g_icmp_gt C 38 93 dX7_sure_38 (by decide) ?_ ?_
          · skip
            exact g_sub _ [0, 1, 2, 3, 4, 5] rfl (hJ93 x10 u12)
          · skip
            refine g_iload C 41 5 dX7_sure_41 rfl ?_
            refine g_jn1 85 (fun (a14 : Int32) => [(0, .ref (ad 0)), (1, .int p1), (2, .int p2), (3, .int p3), (4, .int x5), (6, .int x11)]) (fun (a14 : Int32) => [.int a14]) (fun a14 u15 => ?_) (fun J85 hJ85 => ?_)
            · skip
              refine g_istore C 85 [(5, .int a14), (0, .ref (ad 0)), (1, .int p1), (2, .int p2), (3, .int p3), (4, .int x5), (6, .int x11)] dX7_sure_85 (by decide) rfl ?_
              refine g_iinc C 87 6 [(6, .int (x11 + 1)), (5, .int a14), (0, .ref (ad 0)), (1, .int p1), (2, .int p2), (3, .int p3), (4, .int x5)] dX7_sure_87 rfl rfl (by decide) rfl ?_
              refine g_goto C 90 34 dX7_sure_90 (by decide) ?_
              exact g_sub _ [2, 3, 4, 5, 6, 1, 0] rfl (hself13 a14 (x11 + 1) u15)
            · skip
              refine g_jn0 84 ([(0, .ref (ad 0)), (1, .int p1), (2, .int p2), (3, .int p3), (4, .int x5), (6, .int x11)]) ([]) (fun u16 => ?_) (fun J84 hJ84 => ?_)
              · skip
                refine g_iconst C 84 0 dX7_sure_84 rfl ?_
                exact g_sub _ [0, 1, 2, 3, 4, 5] rfl (hJ85 0 u16)
              · skip
                refine g_if_eq C 43 84 dX7_sure_43 (by decide) ?_ ?_
                · skip
                  exact g_sub _ [0, 1, 2, 3, 4, 6] rfl (hJ84 u12)
                · skip
                  refine g_aload_n C 46 0 dX7_sure_46 rfl ?_
                  refine g_iload_n C 47 1 dX7_sure_47 rfl ?_
                  refine g_iload_n C 48 3 dX7_sure_48 rfl ?_
                  refine g_iload_n C 49 2 dX7_sure_49 rfl ?_
                  refine g_jn1 60 (fun (a17 : Int32) => [(0, .ref (ad 0)), (1, .int p1), (2, .int p2), (3, .int p3), (4, .int x5), (6, .int x11)]) (fun (a17 : Int32) => [.int a17, .int p3, .int p1, .ref (ad 0)]) (fun a17 u18 => ?_) (fun J60 hJ60 => ?_)
                  · skip
                    refine g_iload_n C 60 2 dX7_sure_60 rfl ?_
                    refine g_jn1 71 (fun (a19 : Int32) => [(0, .ref (ad 0)), (1, .int p1), (2, .int p2), (3, .int p3), (4, .int x5), (6, .int x11)]) (fun (a19 : Int32) => [.int a19, .int a17, .int p3, .int p1, .ref (ad 0)]) (fun a19 u20 => ?_) (fun J71 hJ71 => ?_)
                    · skip
                      refine g_callVi (st := []) (As := [.int p1, .int p3, .int a17, .int a19]) C E0_ok E0_vm 71 0 4 (tX7_byGuards F p1 p3 a17 a19 u20) rfl gX7_sure_X7_byGuards rfl rfl rfl (by decide +kernel) ⟨Nat.le_of_ble_eq_true rfl, Nat.le_of_ble_eq_true rfl⟩ rfl rfl rfl (Nat.le_of_ble_eq_true rfl) dX7_sure_71 (fun r22 u21 => ?_)
                      refine g_iload_n C 74 2 dX7_sure_74 rfl ?_
                      refine g_iconst C 75 1 dX7_sure_75 rfl ?_
                      refine g_iadd C 76 dX7_sure_76 ?_
                      refine g_icmp_ne C 77 84 dX7_sure_77 (by decide) ?_ ?_
                      · skip
                        exact g_sub _ [0, 1, 2, 3, 4, 5] rfl (hJ84 u21)
                      · skip
                        refine g_iconst C 80 1 dX7_sure_80 rfl ?_
                        refine g_goto C 81 85 dX7_sure_81 (by decide) ?_
                        exact g_sub _ [0, 1, 2, 3, 4, 5] rfl (hJ85 1 u21)
                    · skip
                      refine g_if_ne C 61 69 dX7_sure_61 (by decide) ?_ ?_
                      · skip
                        refine g_iload C 69 4 dX7_sure_69 rfl ?_
                        exact g_sub _ [0, 1, 2, 3, 4, 5] rfl (hJ71 x5 u18)
                      · skip
                        refine g_iload C 64 5 dX7_sure_64 rfl ?_
                        refine g_goto C 66 71 dX7_sure_66 (by decide) ?_
                        exact g_sub _ [0, 1, 2, 3, 4, 5] rfl (hJ71 x11 u18)
                  · skip
                    refine g_if_ne C 50 58 dX7_sure_50 (by decide) ?_ ?_
                    · skip
                      refine g_iload C 58 6 dX7_sure_58 rfl ?_
                      exact g_sub _ [0, 1, 2, 3, 4, 6] rfl (hJ60 x11 u12)
                    · skip
                      refine g_iload C 53 4 dX7_sure_53 rfl ?_
                      refine g_goto C 55 60 dX7_sure_55 (by decide) ?_
                      exact g_sub _ [0, 1, 2, 3, 4, 6] rfl (hJ60 x5 u12)
    · skip
      refine g_iconst C 16 (-1) dX7_sure_16 rfl ?_
      exact g_iret C 17 dX7_sure_17
def bX7_isRest_5 (F : Nat) (p1 : Int32) (p2 : Int32) (self4 : Int32 → Int32 → St → Option (Int32 × St)) (x1 : Int32) (x2 : Int32) (u3 : St) : Option (Int32 × St) :=
  if 9 < x2 then gd (z01 x1) (some (x1, u3)) else jn (fun (a5 : Int32) (u6 : St) => (self4 a5 (x2 + 1) u6)) (fun (J73 : Int32 → St → Option (Int32 × St)) => jn (fun (u7 : St) => (J73 0 u7)) (fun (J72 : St → Option (Int32 × St)) => if x1 = 0 then (J72 u3) else gd (inb ((10 * x2) + p2) 100) (gd (inb ((10 * p1) + p2) 100) (if (u3.2 6 (Int32.toNatClampNeg ((10 * p1) + p2))) < (u3.2 6 (Int32.toNatClampNeg ((10 * x2) + p2))) then (J72 u3) else gd (inb ((10 * p1) + x2) 100) (gd (inb ((10 * p1) + p2) 100) (if (u3.2 6 (Int32.toNatClampNeg ((10 * p1) + x2))) < (u3.2 6 (Int32.toNatClampNeg ((10 * p1) + p2))) then (J72 u3) else (J73 1 u3)))))))
def pX7_isRest (F : Nat) (p1 : Int32) (p2 : Int32) (u : St) : Option (Int32 × St) :=
  (lq2 (bX7_isRest_5 F p1 p2) F 1 0 u)
set_option maxRecDepth 100000 in
set_option maxHeartbeats 4000000 in
theorem tX7_isRest {l : Launch} {D : va_G} {cI cZ : ClassId} {ad : Nat → Nat} (F : Nat) (p1 : Int32) (p2 : Int32) (u : St) : CtI l D [(cI, .int), (cZ, .boolean)] (wM ad cI cZ) E0 yX7_isRest wsX7_isRest ({ frames := 0, cells := 0, slots := 0, locals := 0 } : Room) [.ref (ad 0), .int p1, .int p2] u (pX7_isRest F p1 p2 u) := by
  refine ctI_of (own := RX7) (cc := cX7_isRest) (n := 5) (ret := (some .boolean)) (by decide) rfl rfl (Nat.le_of_ble_eq_true rfl) (lv := [(0, .ref (ad 0)), (1, .int p1), (2, .int p2)]) rfl (fun C => ?_)
  have iX7 : ∀ w ∈ wsX70, w ∈ wsX7_isRest := fun w h => List.mem_cons_of_mem _ (List.mem_append_right _ (inlX7 w h))
  rw [pX7_isRest]
  refine g_iconst C 0 1 dX7_isRest_0 rfl ?_
  refine g_istore_n C 1 [(3, .int 1), (0, .ref (ad 0)), (1, .int p1), (2, .int p2)] dX7_isRest_1 (by decide) rfl ?_
  refine g_iconst C 2 0 dX7_isRest_2 rfl ?_
  refine g_istore C 3 [(4, .int 0), (3, .int 1), (0, .ref (ad 0)), (1, .int p1), (2, .int p2)] dX7_isRest_3 (by decide) rfl ?_
  refine g_sub _ [2, 3, 4, 1, 0] rfl ?_
  refine g_lq2 (fun (x1 : Int32) (x2 : Int32) => [(0, .ref (ad 0)), (1, .int p1), (2, .int p2), (3, .int x1), (4, .int x2)]) (fun self4 hself4 x1 x2 u3 => ?_) F 1 0 u
  rw [bX7_isRest_5]
  refine g_iload C 5 4 dX7_isRest_5 rfl ?_
  refine g_bipush C 7 9 dX7_isRest_7 rfl ?_
  refine g_icmp_gt C 9 80 dX7_isRest_9 (by decide) ?_ ?_
  · skip
    refine g_iload_n C 80 3 dX7_isRest_80 rfl ?_
    exact g_zret C 81 dX7_isRest_81
  · skip
    refine g_iload_n C 12 3 dX7_isRest_12 rfl ?_
    refine g_jn1 73 (fun (a5 : Int32) => [(0, .ref (ad 0)), (1, .int p1), (2, .int p2), (4, .int x2)]) (fun (a5 : Int32) => [.int a5]) (fun a5 u6 => ?_) (fun J73 hJ73 => ?_)
    · skip
      refine g_istore_n C 73 [(3, .int a5), (0, .ref (ad 0)), (1, .int p1), (2, .int p2), (4, .int x2)] dX7_isRest_73 (by decide) rfl ?_
      refine g_iinc C 74 4 [(4, .int (x2 + 1)), (3, .int a5), (0, .ref (ad 0)), (1, .int p1), (2, .int p2)] dX7_isRest_74 rfl rfl (by decide) rfl ?_
      refine g_goto C 77 5 dX7_isRest_77 (by decide) ?_
      exact g_sub _ [2, 3, 4, 1, 0] rfl (hself4 a5 (x2 + 1) u6)
    · skip
      refine g_jn0 72 ([(0, .ref (ad 0)), (1, .int p1), (2, .int p2), (4, .int x2)]) ([]) (fun u7 => ?_) (fun J72 hJ72 => ?_)
      · skip
        refine g_iconst C 72 0 dX7_isRest_72 rfl ?_
        exact g_sub _ [0, 1, 2, 3] rfl (hJ73 0 u7)
      · skip
        refine g_if_eq C 13 72 dX7_isRest_13 (by decide) ?_ ?_
        · skip
          exact g_sub _ [0, 1, 2, 4] rfl (hJ72 u3)
        · skip
          refine g_aload_n C 16 0 dX7_isRest_16 rfl ?_
          refine gfM_X7_worths C 17 iX7 (List.mem_cons_of_mem _ (List.mem_append_right _ wgL_5_20.1)) dX7_isRest_17 ?_
          refine g_bipush C 20 10 dX7_isRest_20 rfl ?_
          refine g_iload C 22 4 dX7_isRest_22 rfl ?_
          refine g_imul C 24 dX7_isRest_24 ?_
          refine g_iload_n C 25 2 dX7_isRest_25 rfl ?_
          refine g_iadd C 26 dX7_isRest_26 ?_
          refine g_iald C 27 (1 + 6) 0 (wM_arr 6 (by decide)) rfl dX7_isRest_27 ?_
          refine g_aload_n C 28 0 dX7_isRest_28 rfl ?_
          refine gfM_X7_worths C 29 iX7 (List.mem_cons_of_mem _ (List.mem_append_right _ wgL_5_20.1)) dX7_isRest_29 ?_
          refine g_bipush C 32 10 dX7_isRest_32 rfl ?_
          refine g_iload_n C 34 1 dX7_isRest_34 rfl ?_
          refine g_imul C 35 dX7_isRest_35 ?_
          refine g_iload_n C 36 2 dX7_isRest_36 rfl ?_
          refine g_iadd C 37 dX7_isRest_37 ?_
          refine g_iald C 38 (1 + 6) 0 (wM_arr 6 (by decide)) rfl dX7_isRest_38 ?_
          refine g_icmp_gt C 39 72 dX7_isRest_39 (by decide) ?_ ?_
          · skip
            exact g_sub _ [0, 1, 2, 4] rfl (hJ72 u3)
          · skip
            refine g_aload_n C 42 0 dX7_isRest_42 rfl ?_
            refine gfM_X7_worths C 43 iX7 (List.mem_cons_of_mem _ (List.mem_append_right _ wgL_5_20.1)) dX7_isRest_43 ?_
            refine g_bipush C 46 10 dX7_isRest_46 rfl ?_
            refine g_iload_n C 48 1 dX7_isRest_48 rfl ?_
            refine g_imul C 49 dX7_isRest_49 ?_
            refine g_iload C 50 4 dX7_isRest_50 rfl ?_
            refine g_iadd C 52 dX7_isRest_52 ?_
            refine g_iald C 53 (1 + 6) 0 (wM_arr 6 (by decide)) rfl dX7_isRest_53 ?_
            refine g_aload_n C 54 0 dX7_isRest_54 rfl ?_
            refine gfM_X7_worths C 55 iX7 (List.mem_cons_of_mem _ (List.mem_append_right _ wgL_5_20.1)) dX7_isRest_55 ?_
            refine g_bipush C 58 10 dX7_isRest_58 rfl ?_
            refine g_iload_n C 60 1 dX7_isRest_60 rfl ?_
            refine g_imul C 61 dX7_isRest_61 ?_
            refine g_iload_n C 62 2 dX7_isRest_62 rfl ?_
            refine g_iadd C 63 dX7_isRest_63 ?_
            refine g_iald C 64 (1 + 6) 0 (wM_arr 6 (by decide)) rfl dX7_isRest_64 ?_
            refine g_icmp_lt C 65 72 dX7_isRest_65 (by decide) ?_ ?_
            · skip
              exact g_sub _ [0, 1, 2, 4] rfl (hJ72 u3)
            · skip
              refine g_iconst C 68 1 dX7_isRest_68 rfl ?_
              refine g_goto C 69 73 dX7_isRest_69 (by decide) ?_
              exact g_sub _ [0, 1, 2, 4] rfl (hJ73 1 u3)
def jX7_rest_156 (F : Nat) (p3 : Int32) (a6 : Int32) (a7 : Int32) (u8 : St) : Option (Int32 × St) :=
  if p3 = 0 then some (a6, u8) else some (a7, u8)
def bX7_rest_93 (F : Nat) (J156 : Int32 → Int32 → St → Option (Int32 × St)) (self13 : Int32 → Int32 → Int32 → St → Option (Int32 × St)) (x9 : Int32) (x10 : Int32) (x11 : Int32) (u12 : St) : Option (Int32 × St) :=
  if 100 ≤ x11 then (J156 x9 x10 u12) else gd (nz 10) (gd (nz 10) (bd (pX7_isRest F (x11 / 10) (irm x11 10) u12) (fun (r15 : Int32) (u14 : St) => jn (fun (a16 : Int32) (u17 : St) => jn (fun (a18 : Int32) (u19 : St) => vl (x9 + a18) (fun v20 => (self13 v20 a16 (x11 + 1) u19))) (fun (J147 : Int32 → St → Option (Int32 × St)) => if r15 = 0 then (J147 0 u17) else (J147 1 u17))) (fun (J133 : Int32 → St → Option (Int32 × St)) => jn (fun (u21 : St) => (J133 x10 u21)) (fun (J131 : St → Option (Int32 × St)) => if r15 = 0 then (J131 u14) else if x9 = 0 then (J133 x11 u14) else (J131 u14))))))
def jX7_rest_83 (F : Nat) (p3 : Int32)  (u5 : St) : Option (Int32 × St) :=
  jn (jX7_rest_156 F p3) (fun (J156 : Int32 → Int32 → St → Option (Int32 × St)) => (lq3 (bX7_rest_93 F J156) F 0 (-4) 0 u5))
def bX7_rest_24 (F : Nat) (p1 : Int32) (p2 : Int32) (J83 : St → Option (Int32 × St)) (self24 : Int32 → St → Option (Int32 × St)) (x22 : Int32) (u23 : St) : Option (Int32 × St) :=
  if 100 ≤ x22 then (J83 u23) else gd (nz 10) (gd (nz 10) (bd (pX7_byGuards F p1 p2 (x22 / 10) (irm x22 10) u23) (fun (r26 : Int32) (u25 : St) => jn (fun (a27 : Int32) (u28 : St) => gd (inb x22 100) (vl (sta u28 6 x22 a27) (fun (u29 : St) => (self24 (x22 + 1) u29)))) (fun (J76 : Int32 → St → Option (Int32 × St)) => if r26 = 1 then (J76 2 u25) else if r26 = 3 then (J76 1 u25) else (J76 0 u25)))))
def pX7_rest (F : Nat) (p1 : Int32) (p2 : Int32) (p3 : Int32) (u : St) : Option (Int32 × St) :=
  bd (pX7_isHeard F p1 p2 u) (fun (r2 : Int32) (u1 : St) => if r2 = 0 then some ((-1), u1) else bd (pX7_in F (Int32.toInt64 p3) 0 1 u1) (fun (r4 : Int32) (u3 : St) => if r4 = 0 then some ((-1), u3) else jn (jX7_rest_83 F p3) (fun (J83 : St → Option (Int32 × St)) => (lq1 (bX7_rest_24 F p1 p2 J83) F 0 u3))))
set_option maxRecDepth 100000 in
set_option maxHeartbeats 4000000 in
theorem tX7_rest {l : Launch} {D : va_G} {cI cZ : ClassId} {ad : Nat → Nat} (F : Nat) (p1 : Int32) (p2 : Int32) (p3 : Int32) (u : St) : CtI l D [(cI, .int), (cZ, .boolean)] (wM ad cI cZ) E0 yX7_rest wsX7_rest ({ frames := 5, cells := 0, slots := 0, locals := 122 } : Room) [.ref (ad 0), .int p1, .int p2, .int p3] u (pX7_rest F p1 p2 p3 u) := by
  refine ctI_of (own := RX7) (cc := cX7_rest) (n := 8) (ret := (some .int)) (by decide) rfl rfl (Nat.le_of_ble_eq_true rfl) (lv := [(0, .ref (ad 0)), (1, .int p1), (2, .int p2), (3, .int p3)]) rfl (fun C => ?_)
  have iX7 : ∀ w ∈ wsX70, w ∈ wsX7_rest := fun w h => List.mem_cons_of_mem _ (List.mem_append_right _ (inlX7 w h))
  rw [pX7_rest]
  refine g_aload_n C 0 0 dX7_rest_0 rfl ?_
  refine g_iload_n C 1 1 dX7_rest_1 rfl ?_
  refine g_iload_n C 2 2 dX7_rest_2 rfl ?_
  refine g_callVi (st := []) (As := [.int p1, .int p2]) C E0_ok E0_vm 3 0 2 (tX7_isHeard F p1 p2 u) rfl gX7_rest_X7_isHeard rfl rfl rfl (by decide +kernel) ⟨Nat.le_of_ble_eq_true rfl, Nat.le_of_ble_eq_true rfl⟩ rfl rfl rfl (Nat.le_of_ble_eq_true rfl) dX7_rest_3 (fun r2 u1 => ?_)
  refine g_if_eq C 6 19 dX7_rest_6 (by decide) ?_ ?_
  · skip
    refine g_iconst C 19 (-1) dX7_rest_19 rfl ?_
    exact g_iret C 20 dX7_rest_20
  · skip
    refine g_iload_n C 9 3 dX7_rest_9 rfl ?_
    refine g_i2l C 10 dX7_rest_10 ?_
    refine g_lconst C 11 0 dX7_rest_11 rfl ?_
    refine g_lconst C 12 1 dX7_rest_12 rfl ?_
    refine g_callSi (st := []) (As := [.long (Int32.toInt64 p3), .long 0, .long 1]) C E0_ok E0_vm 13 3 (tX7_in F (Int32.toInt64 p3) 0 1 u1) rfl gX7_rest_X7_in rfl rfl rfl (by decide +kernel) ⟨Nat.le_of_ble_eq_true rfl, Nat.le_of_ble_eq_true rfl⟩ rfl (Nat.le_of_ble_eq_true rfl) dX7_rest_13 (fun r4 u3 => ?_)
    refine g_if_ne C 16 21 dX7_rest_16 (by decide) ?_ ?_
    · skip
      refine g_iconst C 21 0 dX7_rest_21 rfl ?_
      refine g_istore C 22 [(4, .int 0), (0, .ref (ad 0)), (1, .int p1), (2, .int p2), (3, .int p3)] dX7_rest_22 (by decide) rfl ?_
      refine g_jn0 83 ([(0, .ref (ad 0)), (3, .int p3)]) ([]) (fun u5 => ?_) (fun J83 hJ83 => ?_)
      · skip
        rw [jX7_rest_83]
        refine g_iconst C 83 0 dX7_rest_83 rfl ?_
        refine g_istore C 84 [(4, .int 0), (0, .ref (ad 0)), (3, .int p3)] dX7_rest_84 (by decide) rfl ?_
        refine g_bipush C 86 (-4) dX7_rest_86 rfl ?_
        refine g_istore C 88 [(5, .int (-4)), (4, .int 0), (0, .ref (ad 0)), (3, .int p3)] dX7_rest_88 (by decide) rfl ?_
        refine g_iconst C 90 0 dX7_rest_90 rfl ?_
        refine g_istore C 91 [(6, .int 0), (5, .int (-4)), (4, .int 0), (0, .ref (ad 0)), (3, .int p3)] dX7_rest_91 (by decide) rfl ?_
        refine g_jn2 156 (fun (a6 : Int32) (a7 : Int32) => [(3, .int p3), (4, .int a6), (5, .int a7)]) (fun (a6 : Int32) (a7 : Int32) => []) (fun a6 a7 u8 => ?_) (fun J156 hJ156 => ?_)
        · skip
          rw [jX7_rest_156]
          refine g_iload_n C 156 0 dX7_rest_156 rfl ?_
          refine g_if_ne C 157 165 dX7_rest_157 (by decide) ?_ ?_
          · skip
            refine g_iload C 165 2 dX7_rest_165 rfl ?_
            exact g_iret C 167 dX7_rest_167
          · skip
            refine g_iload C 160 1 dX7_rest_160 rfl ?_
            refine g_goto C 162 167 dX7_rest_162 (by decide) ?_
            exact g_iret C 167 dX7_rest_167
        · skip
          refine g_sub _ [3, 4, 2, 1, 0] rfl ?_
          refine g_lq3 (fun (x9 : Int32) (x10 : Int32) (x11 : Int32) => [(0, .ref (ad 0)), (3, .int p3), (4, .int x9), (5, .int x10), (6, .int x11)]) (fun self13 hself13 x9 x10 x11 u12 => ?_) F 0 (-4) 0 u5
          rw [bX7_rest_93]
          refine g_iload C 93 4 dX7_rest_93 rfl ?_
          refine g_bipush C 95 100 dX7_rest_95 rfl ?_
          refine g_icmp_ge C 97 156 dX7_rest_97 (by decide) ?_ ?_
          · skip
            exact g_sub _ [1, 2, 3] rfl (hJ156 x9 x10 u12)
          · skip
            refine g_aload_n C 100 0 dX7_rest_100 rfl ?_
            refine g_iload C 101 4 dX7_rest_101 rfl ?_
            refine g_bipush C 103 10 dX7_rest_103 rfl ?_
            refine g_idiv C 105 dX7_rest_105 ?_
            refine g_iload C 106 4 dX7_rest_106 rfl ?_
            refine g_bipush C 108 10 dX7_rest_108 rfl ?_
            refine g_irem C 110 dX7_rest_110 ?_
            refine g_callVi (st := []) (As := [.int (x11 / 10), .int (irm x11 10)]) C E0_ok E0_vm 111 0 2 (tX7_isRest F (x11 / 10) (irm x11 10) u12) rfl gX7_rest_X7_isRest rfl rfl rfl (by decide +kernel) ⟨Nat.le_of_ble_eq_true rfl, Nat.le_of_ble_eq_true rfl⟩ rfl rfl rfl (Nat.le_of_ble_eq_true rfl) dX7_rest_111 (fun r15 u14 => ?_)
            refine g_istore C 114 [(7, .int r15), (0, .ref (ad 0)), (3, .int p3), (4, .int x9), (5, .int x10), (6, .int x11)] dX7_rest_114 (by decide) rfl ?_
            refine g_iload C 116 0 dX7_rest_116 rfl ?_
            refine g_jn1 133 (fun (a16 : Int32) => [(0, .ref (ad 0)), (3, .int p3), (4, .int x9), (6, .int x11), (7, .int r15)]) (fun (a16 : Int32) => [.int a16]) (fun a16 u17 => ?_) (fun J133 hJ133 => ?_)
            · skip
              refine g_istore C 133 [(5, .int a16), (0, .ref (ad 0)), (3, .int p3), (4, .int x9), (6, .int x11), (7, .int r15)] dX7_rest_133 (by decide) rfl ?_
              refine g_iload C 135 3 dX7_rest_135 rfl ?_
              refine g_iload C 137 5 dX7_rest_137 rfl ?_
              refine g_jn1 147 (fun (a18 : Int32) => [(0, .ref (ad 0)), (3, .int p3), (5, .int a16), (6, .int x11)]) (fun (a18 : Int32) => [.int a18, .int x9]) (fun a18 u19 => ?_) (fun J147 hJ147 => ?_)
              · skip
                refine g_iadd C 147 dX7_rest_147 ?_
                refine g_istoreV C 148 (fun v20 => [(4, .int v20), (0, .ref (ad 0)), (3, .int p3), (5, .int a16), (6, .int x11)]) dX7_rest_148 (by decide) (fun _ => rfl) (fun v20 => ?_)
                refine g_iinc C 150 4 [(6, .int (x11 + 1)), (4, .int v20), (0, .ref (ad 0)), (3, .int p3), (5, .int a16)] dX7_rest_150 rfl rfl (by decide) rfl ?_
                refine g_goto C 153 93 dX7_rest_153 (by decide) ?_
                exact g_sub _ [2, 3, 1, 4, 0] rfl (hself13 v20 a16 (x11 + 1) u19)
              · skip
                refine g_if_eq C 139 146 dX7_rest_139 (by decide) ?_ ?_
                · skip
                  refine g_iconst C 146 0 dX7_rest_146 rfl ?_
                  exact g_sub _ [1, 2, 0, 4] rfl (hJ147 0 u17)
                · skip
                  refine g_iconst C 142 1 dX7_rest_142 rfl ?_
                  refine g_goto C 143 147 dX7_rest_143 (by decide) ?_
                  exact g_sub _ [1, 2, 0, 4] rfl (hJ147 1 u17)
            · skip
              refine g_jn0 131 ([(0, .ref (ad 0)), (3, .int p3), (4, .int x9), (5, .int x10), (6, .int x11), (7, .int r15)]) ([]) (fun u21 => ?_) (fun J131 hJ131 => ?_)
              · skip
                refine g_iload C 131 3 dX7_rest_131 rfl ?_
                exact g_sub _ [0, 1, 2, 4, 5] rfl (hJ133 x10 u21)
              · skip
                refine g_if_eq C 118 131 dX7_rest_118 (by decide) ?_ ?_
                · skip
                  exact g_sub _ [1, 2, 3, 4, 5, 0] rfl (hJ131 u14)
                · skip
                  refine g_iload C 121 3 dX7_rest_121 rfl ?_
                  refine g_if_ne C 123 131 dX7_rest_123 (by decide) ?_ ?_
                  · skip
                    exact g_sub _ [1, 2, 3, 4, 5, 0] rfl (hJ131 u14)
                  · skip
                    refine g_iload C 126 5 dX7_rest_126 rfl ?_
                    refine g_goto C 128 133 dX7_rest_128 (by decide) ?_
                    exact g_sub _ [1, 2, 3, 5, 0] rfl (hJ133 x11 u14)
      · skip
        refine g_sub _ [1, 2, 3, 4, 0] rfl ?_
        refine g_lq1 (fun (x22 : Int32) => [(0, .ref (ad 0)), (1, .int p1), (2, .int p2), (3, .int p3), (4, .int x22)]) (fun self24 hself24 x22 u23 => ?_) F 0 u3
        rw [bX7_rest_24]
        refine g_iload C 24 4 dX7_rest_24 rfl ?_
        refine g_bipush C 26 100 dX7_rest_26 rfl ?_
        refine g_icmp_ge C 28 83 dX7_rest_28 (by decide) ?_ ?_
        · skip
          exact g_sub _ [0, 3] rfl (hJ83 u23)
        · skip
          refine g_aload_n C 31 0 dX7_rest_31 rfl ?_
          refine g_iload_n C 32 1 dX7_rest_32 rfl ?_
          refine g_iload_n C 33 2 dX7_rest_33 rfl ?_
          refine g_iload C 34 4 dX7_rest_34 rfl ?_
          refine g_bipush C 36 10 dX7_rest_36 rfl ?_
          refine g_idiv C 38 dX7_rest_38 ?_
          refine g_iload C 39 4 dX7_rest_39 rfl ?_
          refine g_bipush C 41 10 dX7_rest_41 rfl ?_
          refine g_irem C 43 dX7_rest_43 ?_
          refine g_callVi (st := []) (As := [.int p1, .int p2, .int (x22 / 10), .int (irm x22 10)]) C E0_ok E0_vm 44 0 4 (tX7_byGuards F p1 p2 (x22 / 10) (irm x22 10) u23) rfl gX7_rest_X7_byGuards rfl rfl rfl (by decide +kernel) ⟨Nat.le_of_ble_eq_true rfl, Nat.le_of_ble_eq_true rfl⟩ rfl rfl rfl (Nat.le_of_ble_eq_true rfl) dX7_rest_44 (fun r26 u25 => ?_)
          refine g_istore C 47 [(5, .int r26), (0, .ref (ad 0)), (1, .int p1), (2, .int p2), (3, .int p3), (4, .int x22)] dX7_rest_47 (by decide) rfl ?_
          refine g_aload_n C 49 1 dX7_rest_49 rfl ?_
          refine gfM_X7_worths C 50 iX7 (List.mem_cons_of_mem _ (List.mem_append_right _ wgL_5_20.1)) dX7_rest_50 ?_
          refine g_iload C 53 5 dX7_rest_53 rfl ?_
          refine g_iload C 55 0 dX7_rest_55 rfl ?_
          refine g_iconst C 57 1 dX7_rest_57 rfl ?_
          refine g_jn1 76 (fun (a27 : Int32) => [(0, .ref (ad 0)), (1, .int p1), (2, .int p2), (3, .int p3), (4, .int x22)]) (fun (a27 : Int32) => [.int a27, .int x22, .ref (ad (1 + 6))]) (fun a27 u28 => ?_) (fun J76 hJ76 => ?_)
          · skip
            refine g_iast C 76 (1 + 6) 0 6 (wM_arr 6 (by decide)) (wM_aset 6 (by decide)) rfl dX7_rest_76 (fun u29 => ?_)
            refine g_iinc C 77 4 [(4, .int (x22 + 1)), (0, .ref (ad 0)), (1, .int p1), (2, .int p2), (3, .int p3)] dX7_rest_77 rfl rfl (by decide) rfl ?_
            refine g_goto C 80 24 dX7_rest_80 (by decide) ?_
            exact g_sub _ [1, 2, 3, 4, 0] rfl (hself24 (x22 + 1) u29)
          · skip
            refine g_icmp_ne C 58 65 dX7_rest_58 (by decide) ?_ ?_
            · skip
              refine g_iload C 65 0 dX7_rest_65 rfl ?_
              refine g_iconst C 67 3 dX7_rest_67 rfl ?_
              refine g_icmp_ne C 68 75 dX7_rest_68 (by decide) ?_ ?_
              · skip
                refine g_iconst C 75 0 dX7_rest_75 rfl ?_
                exact g_sub _ [1, 2, 3, 4, 5] rfl (hJ76 0 u25)
              · skip
                refine g_iconst C 71 1 dX7_rest_71 rfl ?_
                refine g_goto C 72 76 dX7_rest_72 (by decide) ?_
                exact g_sub _ [1, 2, 3, 4, 5] rfl (hJ76 1 u25)
            · skip
              refine g_iconst C 61 2 dX7_rest_61 rfl ?_
              refine g_goto C 62 76 dX7_rest_62 (by decide) ?_
              exact g_sub _ [1, 2, 3, 4, 5] rfl (hJ76 2 u25)
    · skip
      refine g_iconst C 19 (-1) dX7_rest_19 rfl ?_
      exact g_iret C 20 dX7_rest_20
def jX7_share_181 (F : Nat) (p2 : Int32) (a4 : Int32) (a5 : Int32) (u6 : St) : Option (Int32 × St) :=
  if p2 = 0 then some (a4, u6) else some (a5, u6)
def jX7_share_129 (F : Nat) (p1 : Int32) (p2 : Int32) (x7 : Int32) (x8 : Int32) (x9 : Int32) (self11 : Int32 → Int32 → Int32 → St → Option (Int32 × St)) (a15 : Int32) (u16 : St) : Option (Int32 × St) :=
  jn (fun (a17 : Int32) (u18 : St) => vl (x7 + a17) (fun v19 => jn (fun (a20 : Int32) (u21 : St) => (self11 v19 a20 (x9 + 1) u21)) (fun (J173 : Int32 → St → Option (Int32 × St)) => if (p2 - 10) = x9 then (J173 a15 u18) else (J173 x8 u18)))) (fun (J155 : Int32 → St → Option (Int32 × St)) => jn (fun (u22 : St) => (J155 0 u22)) (fun (J154 : St → Option (Int32 × St)) => if a15 = (-4) then (J154 u16) else bd (pX7_isWonBy F 0 x9 p1 a15 u16) (fun (r24 : Int32) (u23 : St) => if r24 = 0 then (J154 u23) else (J155 1 u23))))
def bX7_share_89 (F : Nat) (p1 : Int32) (x9 : Int32) (J129 : Int32 → St → Option (Int32 × St)) (self28 : Int32 → Int32 → St → Option (Int32 × St)) (x25 : Int32) (x26 : Int32) (u27 : St) : Option (Int32 × St) :=
  if x26 < 0 then (J129 x25 u27) else if x25 = (-4) then (J129 x25 u27) else bd (pX7_isWonBy F 0 x9 p1 x26 u27) (fun (r30 : Int32) (u29 : St) => jn (fun (a31 : Int32) (u32 : St) => (self28 a31 (x26 + (-1)) u32)) (fun (J121 : Int32 → St → Option (Int32 × St)) => if r30 = 0 then (J121 x25 u29) else (J121 x26 u29)))
def bX7_share_51 (F : Nat) (p1 : Int32) (p2 : Int32) (J181 : Int32 → Int32 → St → Option (Int32 × St)) (self11 : Int32 → Int32 → Int32 → St → Option (Int32 × St)) (x7 : Int32) (x8 : Int32) (x9 : Int32) (u10 : St) : Option (Int32 × St) :=
  if (u10.1 0) ≤ x9 then (J181 x7 x8 u10) else gd (inb (24 + x9) 408) (jn (fun (a12 : Int32) (u13 : St) => vl ((u13.1 1) - 1) (fun v14 => jn (jX7_share_129 F p1 p2 x7 x8 x9 self11) (fun (J129 : Int32 → St → Option (Int32 × St)) => (lq2 (bX7_share_89 F p1 x9 J129) F a12 v14 u13)))) (fun (J79 : Int32 → St → Option (Int32 × St)) => if (u10.2 0 (Int32.toNatClampNeg (24 + x9))) = 0 then (J79 0 u10) else (J79 (-4) u10)))
def pX7_share (F : Nat) (p1 : Int32) (p2 : Int32) (u : St) : Option (Int32 × St) :=
  bd (pX7_isSide F p1 u) (fun (r2 : Int32) (u1 : St) => if r2 = 0 then some ((-1), u1) else jn (fun (u3 : St) => if (u3.1 1) = 0 then some ((-4), u3) else jn (jX7_share_181 F p2) (fun (J181 : Int32 → Int32 → St → Option (Int32 × St)) => (lq3 (bX7_share_51 F p1 p2 J181) F 0 (-4) 0 u3))) (fun (J32 : St → Option (Int32 × St)) => if p2 = 0 then (J32 u1) else bd (pX7_in F (Int32.toInt64 p2) 10 (Int32.toInt64 (9 + (u1.1 0))) u1) (fun (r34 : Int32) (u33 : St) => if r34 = 0 then some ((-1), u33) else (J32 u33))))
set_option maxRecDepth 100000 in
set_option maxHeartbeats 4000000 in
theorem tX7_share {l : Launch} {D : va_G} {cI cZ : ClassId} {ad : Nat → Nat} (F : Nat) (p1 : Int32) (p2 : Int32) (u : St) : CtI l D [(cI, .int), (cZ, .boolean)] (wM ad cI cZ) E0 yX7_share wsX7_share ({ frames := 5, cells := 0, slots := 0, locals := 122 } : Room) [.ref (ad 0), .int p1, .int p2] u (pX7_share F p1 p2 u) := by
  refine ctI_of (own := RX7) (cc := cX7_share) (n := 8) (ret := (some .int)) (by decide) rfl rfl (Nat.le_of_ble_eq_true rfl) (lv := [(0, .ref (ad 0)), (1, .int p1), (2, .int p2)]) rfl (fun C => ?_)
  have iX7 : ∀ w ∈ wsX70, w ∈ wsX7_share := fun w h => List.mem_cons_of_mem _ (List.mem_append_right _ (inlX7 w h))
  rw [pX7_share]
  refine g_iload_n C 0 1 dX7_share_0 rfl ?_
  refine g_callSi (st := []) (As := [.int p1]) C E0_ok E0_vm 1 1 (tX7_isSide F p1 u) rfl gX7_share_X7_isSide rfl rfl rfl (by decide +kernel) ⟨Nat.le_of_ble_eq_true rfl, Nat.le_of_ble_eq_true rfl⟩ rfl (Nat.le_of_ble_eq_true rfl) dX7_share_1 (fun r2 u1 => ?_)
  refine g_if_eq C 4 30 dX7_share_4 (by decide) ?_ ?_
  · skip
    refine g_iconst C 30 (-1) dX7_share_30 rfl ?_
    exact g_iret C 31 dX7_share_31
  · skip
    refine g_iload_n C 7 2 dX7_share_7 rfl ?_
    refine g_jn0 32 ([(0, .ref (ad 0)), (1, .int p1), (2, .int p2)]) ([]) (fun u3 => ?_) (fun J32 hJ32 => ?_)
    · skip
      refine g_aload_n C 32 0 dX7_share_32 rfl ?_
      refine gfM_X7_judgeMany C 33 iX7 (List.mem_cons_of_mem _ (List.mem_append_right _ wgL_15_17.1)) dX7_share_33 ?_
      refine g_if_ne C 36 42 dX7_share_36 (by decide) ?_ ?_
      · skip
        refine g_iconst C 42 0 dX7_share_42 rfl ?_
        refine g_istore_n C 43 [(3, .int 0), (0, .ref (ad 0)), (1, .int p1), (2, .int p2)] dX7_share_43 (by decide) rfl ?_
        refine g_bipush C 44 (-4) dX7_share_44 rfl ?_
        refine g_istore C 46 [(4, .int (-4)), (3, .int 0), (0, .ref (ad 0)), (1, .int p1), (2, .int p2)] dX7_share_46 (by decide) rfl ?_
        refine g_iconst C 48 0 dX7_share_48 rfl ?_
        refine g_istore C 49 [(5, .int 0), (4, .int (-4)), (3, .int 0), (0, .ref (ad 0)), (1, .int p1), (2, .int p2)] dX7_share_49 (by decide) rfl ?_
        refine g_jn2 181 (fun (a4 : Int32) (a5 : Int32) => [(2, .int p2), (3, .int a4), (4, .int a5)]) (fun (a4 : Int32) (a5 : Int32) => []) (fun a4 a5 u6 => ?_) (fun J181 hJ181 => ?_)
        · skip
          rw [jX7_share_181]
          refine g_iload_n C 181 0 dX7_share_181 rfl ?_
          refine g_if_ne C 182 189 dX7_share_182 (by decide) ?_ ?_
          · skip
            refine g_iload C 189 2 dX7_share_189 rfl ?_
            exact g_iret C 191 dX7_share_191
          · skip
            refine g_iload_n C 185 1 dX7_share_185 rfl ?_
            refine g_goto C 186 191 dX7_share_186 (by decide) ?_
            exact g_iret C 191 dX7_share_191
        · skip
          refine g_sub _ [3, 4, 5, 2, 1, 0] rfl ?_
          refine g_lq3 (fun (x7 : Int32) (x8 : Int32) (x9 : Int32) => [(0, .ref (ad 0)), (1, .int p1), (2, .int p2), (3, .int x7), (4, .int x8), (5, .int x9)]) (fun self11 hself11 x7 x8 x9 u10 => ?_) F 0 (-4) 0 u3
          rw [bX7_share_51]
          refine g_iload C 51 5 dX7_share_51 rfl ?_
          refine g_aload_n C 53 0 dX7_share_53 rfl ?_
          refine gfM_X7_caseMany C 54 iX7 (List.mem_cons_of_mem _ (List.mem_append_right _ wgL_15_16.1)) dX7_share_54 ?_
          refine g_icmp_ge C 57 181 dX7_share_57 (by decide) ?_ ?_
          · skip
            exact g_sub _ [2, 3, 4] rfl (hJ181 x7 x8 u10)
          · skip
            refine g_aload_n C 60 0 dX7_share_60 rfl ?_
            refine gfM_X7_state C 61 iX7 (List.mem_cons_of_mem _ (List.mem_append_right _ wgL_5_14.1)) dX7_share_61 ?_
            refine g_bipush C 64 24 dX7_share_64 rfl ?_
            refine g_iload C 66 5 dX7_share_66 rfl ?_
            refine g_iadd C 68 dX7_share_68 ?_
            refine g_iald C 69 (1 + 0) 0 (wM_arr 0 (by decide)) rfl dX7_share_69 ?_
            refine g_jn1 79 (fun (a12 : Int32) => [(0, .ref (ad 0)), (1, .int p1), (2, .int p2), (3, .int x7), (4, .int x8), (5, .int x9)]) (fun (a12 : Int32) => [.int a12]) (fun a12 u13 => ?_) (fun J79 hJ79 => ?_)
            · skip
              refine g_istore C 79 [(6, .int a12), (0, .ref (ad 0)), (1, .int p1), (2, .int p2), (3, .int x7), (4, .int x8), (5, .int x9)] dX7_share_79 (by decide) rfl ?_
              refine g_aload_n C 81 1 dX7_share_81 rfl ?_
              refine gfM_X7_judgeMany C 82 iX7 (List.mem_cons_of_mem _ (List.mem_append_right _ wgL_15_17.1)) dX7_share_82 ?_
              refine g_iconst C 85 1 dX7_share_85 rfl ?_
              refine g_isub C 86 dX7_share_86 ?_
              refine g_istoreV C 87 (fun v14 => [(7, .int v14), (6, .int a12), (0, .ref (ad 0)), (1, .int p1), (2, .int p2), (3, .int x7), (4, .int x8), (5, .int x9)]) dX7_share_87 (by decide) (fun _ => rfl) (fun v14 => ?_)
              refine g_jn1 129 (fun (a15 : Int32) => [(0, .ref (ad 0)), (1, .int p1), (2, .int p2), (3, .int x7), (4, .int x8), (5, .int x9), (6, .int a15)]) (fun (a15 : Int32) => []) (fun a15 u16 => ?_) (fun J129 hJ129 => ?_)
              · skip
                rw [jX7_share_129]
                refine g_iload_n C 129 3 dX7_share_129 rfl ?_
                refine g_iload C 130 6 dX7_share_130 rfl ?_
                refine g_bipush C 132 (-4) dX7_share_132 rfl ?_
                refine g_jn1 155 (fun (a17 : Int32) => [(0, .ref (ad 0)), (1, .int p1), (2, .int p2), (4, .int x8), (5, .int x9), (6, .int a15)]) (fun (a17 : Int32) => [.int a17, .int x7]) (fun a17 u18 => ?_) (fun J155 hJ155 => ?_)
                · skip
                  refine g_iadd C 155 dX7_share_155 ?_
                  refine g_istore_nV C 156 (fun v19 => [(3, .int v19), (0, .ref (ad 0)), (1, .int p1), (2, .int p2), (4, .int x8), (5, .int x9), (6, .int a15)]) dX7_share_156 (by decide) (fun _ => rfl) (fun v19 => ?_)
                  refine g_iload_n C 157 3 dX7_share_157 rfl ?_
                  refine g_bipush C 158 10 dX7_share_158 rfl ?_
                  refine g_isub C 160 dX7_share_160 ?_
                  refine g_iload C 161 5 dX7_share_161 rfl ?_
                  refine g_jn1 173 (fun (a20 : Int32) => [(0, .ref (ad 0)), (1, .int p1), (2, .int p2), (3, .int v19), (5, .int x9)]) (fun (a20 : Int32) => [.int a20]) (fun a20 u21 => ?_) (fun J173 hJ173 => ?_)
                  · skip
                    refine g_istore C 173 [(4, .int a20), (0, .ref (ad 0)), (1, .int p1), (2, .int p2), (3, .int v19), (5, .int x9)] dX7_share_173 (by decide) rfl ?_
                    refine g_iinc C 175 5 [(5, .int (x9 + 1)), (4, .int a20), (0, .ref (ad 0)), (1, .int p1), (2, .int p2), (3, .int v19)] dX7_share_175 rfl rfl (by decide) rfl ?_
                    refine g_goto C 178 51 dX7_share_178 (by decide) ?_
                    exact g_sub _ [2, 3, 4, 5, 1, 0] rfl (hself11 v19 a20 (x9 + 1) u21)
                  · skip
                    refine g_icmp_ne C 163 171 dX7_share_163 (by decide) ?_ ?_
                    · skip
                      refine g_iload C 171 4 dX7_share_171 rfl ?_
                      exact g_sub _ [1, 2, 3, 0, 5] rfl (hJ173 x8 u18)
                    · skip
                      refine g_iload C 166 6 dX7_share_166 rfl ?_
                      refine g_goto C 168 173 dX7_share_168 (by decide) ?_
                      exact g_sub _ [1, 2, 3, 0, 5] rfl (hJ173 a15 u18)
                · skip
                  refine g_jn0 154 ([(0, .ref (ad 0)), (1, .int p1), (2, .int p2), (4, .int x8), (5, .int x9), (6, .int a15)]) ([.int x7]) (fun u22 => ?_) (fun J154 hJ154 => ?_)
                  · skip
                    refine g_iconst C 154 0 dX7_share_154 rfl ?_
                    exact g_sub _ [0, 1, 2, 3, 4, 5] rfl (hJ155 0 u22)
                  · skip
                    refine g_icmp_eq C 134 154 dX7_share_134 (by decide) ?_ ?_
                    · skip
                      exact g_sub _ [0, 1, 2, 4, 5, 6] rfl (hJ154 u16)
                    · skip
                      refine g_aload_n C 137 0 dX7_share_137 rfl ?_
                      refine g_iconst C 138 0 dX7_share_138 rfl ?_
                      refine g_iload C 139 5 dX7_share_139 rfl ?_
                      refine g_iload_n C 141 1 dX7_share_141 rfl ?_
                      refine g_iload C 142 6 dX7_share_142 rfl ?_
                      refine g_callVi (st := [.int x7]) (As := [.int 0, .int x9, .int p1, .int a15]) C E0_ok E0_vm 144 0 4 (tX7_isWonBy F 0 x9 p1 a15 u16) rfl gX7_share_X7_isWonBy rfl rfl rfl (by decide +kernel) ⟨Nat.le_of_ble_eq_true rfl, Nat.le_of_ble_eq_true rfl⟩ rfl rfl rfl (Nat.le_of_ble_eq_true rfl) dX7_share_144 (fun r24 u23 => ?_)
                      refine g_if_eq C 147 154 dX7_share_147 (by decide) ?_ ?_
                      · skip
                        exact g_sub _ [0, 1, 2, 4, 5, 6] rfl (hJ154 u23)
                      · skip
                        refine g_iconst C 150 1 dX7_share_150 rfl ?_
                        refine g_goto C 151 155 dX7_share_151 (by decide) ?_
                        exact g_sub _ [0, 1, 2, 4, 5, 6] rfl (hJ155 1 u23)
              · skip
                refine g_sub _ [2, 3, 4, 5, 6, 7, 1, 0] rfl ?_
                refine g_lq2 (fun (x25 : Int32) (x26 : Int32) => [(0, .ref (ad 0)), (1, .int p1), (2, .int p2), (3, .int x7), (4, .int x8), (5, .int x9), (6, .int x25), (7, .int x26)]) (fun self28 hself28 x25 x26 u27 => ?_) F a12 v14 u13
                rw [bX7_share_89]
                refine g_iload C 89 7 dX7_share_89 rfl ?_
                refine g_if_lt C 91 129 dX7_share_91 (by decide) ?_ ?_
                · skip
                  exact g_sub _ [0, 1, 2, 3, 4, 5, 6] rfl (hJ129 x25 u27)
                · skip
                  refine g_iload C 94 6 dX7_share_94 rfl ?_
                  refine g_bipush C 96 (-4) dX7_share_96 rfl ?_
                  refine g_icmp_eq C 98 129 dX7_share_98 (by decide) ?_ ?_
                  · skip
                    exact g_sub _ [0, 1, 2, 3, 4, 5, 6] rfl (hJ129 x25 u27)
                  · skip
                    refine g_aload_n C 101 0 dX7_share_101 rfl ?_
                    refine g_iconst C 102 0 dX7_share_102 rfl ?_
                    refine g_iload C 103 5 dX7_share_103 rfl ?_
                    refine g_iload_n C 105 1 dX7_share_105 rfl ?_
                    refine g_iload C 106 7 dX7_share_106 rfl ?_
                    refine g_callVi (st := []) (As := [.int 0, .int x9, .int p1, .int x26]) C E0_ok E0_vm 108 0 4 (tX7_isWonBy F 0 x9 p1 x26 u27) rfl gX7_share_X7_isWonBy rfl rfl rfl (by decide +kernel) ⟨Nat.le_of_ble_eq_true rfl, Nat.le_of_ble_eq_true rfl⟩ rfl rfl rfl (Nat.le_of_ble_eq_true rfl) dX7_share_108 (fun r30 u29 => ?_)
                    refine g_jn1 121 (fun (a31 : Int32) => [(0, .ref (ad 0)), (1, .int p1), (2, .int p2), (3, .int x7), (4, .int x8), (5, .int x9), (7, .int x26)]) (fun (a31 : Int32) => [.int a31]) (fun a31 u32 => ?_) (fun J121 hJ121 => ?_)
                    · skip
                      refine g_istore C 121 [(6, .int a31), (0, .ref (ad 0)), (1, .int p1), (2, .int p2), (3, .int x7), (4, .int x8), (5, .int x9), (7, .int x26)] dX7_share_121 (by decide) rfl ?_
                      refine g_iinc C 123 7 [(7, .int (x26 + (-1))), (6, .int a31), (0, .ref (ad 0)), (1, .int p1), (2, .int p2), (3, .int x7), (4, .int x8), (5, .int x9)] dX7_share_123 rfl rfl (by decide) rfl ?_
                      refine g_goto C 126 89 dX7_share_126 (by decide) ?_
                      exact g_sub _ [2, 3, 4, 5, 6, 7, 1, 0] rfl (hself28 a31 (x26 + (-1)) u32)
                    · skip
                      refine g_if_eq C 111 119 dX7_share_111 (by decide) ?_ ?_
                      · skip
                        refine g_iload C 119 6 dX7_share_119 rfl ?_
                        exact g_sub _ [0, 1, 2, 3, 4, 5, 7] rfl (hJ121 x25 u29)
                      · skip
                        refine g_iload C 114 7 dX7_share_114 rfl ?_
                        refine g_goto C 116 121 dX7_share_116 (by decide) ?_
                        exact g_sub _ [0, 1, 2, 3, 4, 5, 7] rfl (hJ121 x26 u29)
            · skip
              refine g_if_eq C 70 78 dX7_share_70 (by decide) ?_ ?_
              · skip
                refine g_iconst C 78 0 dX7_share_78 rfl ?_
                exact g_sub _ [0, 1, 2, 3, 4, 5] rfl (hJ79 0 u10)
              · skip
                refine g_bipush C 73 (-4) dX7_share_73 rfl ?_
                refine g_goto C 75 79 dX7_share_75 (by decide) ?_
                exact g_sub _ [0, 1, 2, 3, 4, 5] rfl (hJ79 (-4) u10)
      · skip
        refine g_bipush C 39 (-4) dX7_share_39 rfl ?_
        exact g_iret C 41 dX7_share_41
    · skip
      refine g_if_eq C 8 32 dX7_share_8 (by decide) ?_ ?_
      · skip
        exact g_sub _ [0, 1, 2] rfl (hJ32 u1)
      · skip
        refine g_iload_n C 11 2 dX7_share_11 rfl ?_
        refine g_i2l C 12 dX7_share_12 ?_
        refine g_ldc2 C 13 10 (by decide +kernel) dX7_share_13 ?_
        refine g_bipush C 16 9 dX7_share_16 rfl ?_
        refine g_aload_n C 18 0 dX7_share_18 rfl ?_
        refine gfM_X7_caseMany C 19 iX7 (List.mem_cons_of_mem _ (List.mem_append_right _ wgL_15_16.1)) dX7_share_19 ?_
        refine g_iadd C 22 dX7_share_22 ?_
        refine g_i2l C 23 dX7_share_23 ?_
        refine g_callSi (st := []) (As := [.long (Int32.toInt64 p2), .long 10, .long (Int32.toInt64 (9 + (u1.1 0)))]) C E0_ok E0_vm 24 3 (tX7_in F (Int32.toInt64 p2) 10 (Int32.toInt64 (9 + (u1.1 0))) u1) rfl gX7_share_X7_in rfl rfl rfl (by decide +kernel) ⟨Nat.le_of_ble_eq_true rfl, Nat.le_of_ble_eq_true rfl⟩ rfl (Nat.le_of_ble_eq_true rfl) dX7_share_24 (fun r34 u33 => ?_)
        refine g_if_ne C 27 32 dX7_share_27 (by decide) ?_ ?_
        · skip
          exact g_sub _ [0, 1, 2] rfl (hJ32 u33)
        · skip
          refine g_iconst C 30 (-1) dX7_share_30 rfl ?_
          exact g_iret C 31 dX7_share_31
def bX7_bitsOf_4 (F : Nat)  (self4 : Int32 → Int32 → St → Option (Int32 × St)) (x1 : Int32) (x2 : Int32) (u3 : St) : Option (Int32 × St) :=
  if x2 ≤ 0 then some (x1, u3) else vl (x1 + (x2 &&& 1)) (fun v5 => vl (x2 >>> (1 &&& 31)) (fun v6 => (self4 v5 v6 u3)))
def pX7_bitsOf (F : Nat) (p1 : Int32) (u : St) : Option (Int32 × St) :=
  (lq2 (bX7_bitsOf_4 F) F 0 p1 u)
set_option maxRecDepth 100000 in
set_option maxHeartbeats 4000000 in
theorem tX7_bitsOf {l : Launch} {D : va_G} {cI cZ : ClassId} {ad : Nat → Nat} (F : Nat) (p1 : Int32) (u : St) : CtI l D [(cI, .int), (cZ, .boolean)] (wM ad cI cZ) E0 yX7_bitsOf wsX7_bitsOf ({ frames := 0, cells := 0, slots := 0, locals := 0 } : Room) [.int p1] u (pX7_bitsOf F p1 u) := by
  refine ctI_of (own := RX7) (cc := cX7_bitsOf) (n := 3) (ret := (some .int)) (by decide) rfl rfl (Nat.le_of_ble_eq_true rfl) (lv := [(0, .int p1)]) rfl (fun C => ?_)
  rw [pX7_bitsOf]
  refine g_iconst C 0 0 dX7_bitsOf_0 rfl ?_
  refine g_istore_n C 1 [(1, .int 0), (0, .int p1)] dX7_bitsOf_1 (by decide) rfl ?_
  refine g_iload_n C 2 1 dX7_bitsOf_2 rfl ?_
  refine g_istore_n C 3 [(2, .int p1), (1, .int 0), (0, .int p1)] dX7_bitsOf_3 (by decide) rfl ?_
  refine g_sub _ [1, 0] rfl ?_
  refine g_lq2 (fun (x1 : Int32) (x2 : Int32) => [(1, .int x1), (2, .int x2)]) (fun self4 hself4 x1 x2 u3 => ?_) F 0 p1 u
  rw [bX7_bitsOf_4]
  refine g_iload_n C 4 1 dX7_bitsOf_4 rfl ?_
  refine g_if_le C 5 21 dX7_bitsOf_5 (by decide) ?_ ?_
  · skip
    refine g_iload_n C 21 0 dX7_bitsOf_21 rfl ?_
    exact g_iret C 22 dX7_bitsOf_22
  · skip
    refine g_iload_n C 8 0 dX7_bitsOf_8 rfl ?_
    refine g_iload_n C 9 1 dX7_bitsOf_9 rfl ?_
    refine g_iconst C 10 1 dX7_bitsOf_10 rfl ?_
    refine g_iand C 11 dX7_bitsOf_11 ?_
    refine g_iadd C 12 dX7_bitsOf_12 ?_
    refine g_istore_nV C 13 (fun v5 => [(1, .int v5), (2, .int x2)]) dX7_bitsOf_13 (by decide) (fun _ => rfl) (fun v5 => ?_)
    refine g_iload_n C 14 1 dX7_bitsOf_14 rfl ?_
    refine g_iconst C 15 1 dX7_bitsOf_15 rfl ?_
    refine g_ishr C 16 dX7_bitsOf_16 ?_
    refine g_istore_nV C 17 (fun v6 => [(2, .int v6), (1, .int v5)]) dX7_bitsOf_17 (by decide) (fun _ => rfl) (fun v6 => ?_)
    refine g_goto C 18 4 dX7_bitsOf_18 (by decide) ?_
    exact g_sub _ [1, 0] rfl (hself4 v5 v6 u3)
def pX7_wonThen (F : Nat) (p1 : Int32) (p2 : Int32) (u : St) : Option (Int32 × St) :=
  bd (pX7_docketGoes F p1 u) (fun (_ : Unit) (u1 : St) => bd (pX7_wonOn F 272 (p2 + 1) u1) (fun (r3 : Int32) (u2 : St) => bd (pX7_bitsOf F r3 u2) (fun (r5 : Int32) (u4 : St) => some (r5, u4))))
set_option maxRecDepth 100000 in
set_option maxHeartbeats 4000000 in
theorem tX7_wonThen {l : Launch} {D : va_G} {cI cZ : ClassId} {ad : Nat → Nat} (F : Nat) (p1 : Int32) (p2 : Int32) (u : St) : CtI l D [(cI, .int), (cZ, .boolean)] (wM ad cI cZ) E0 yX7_wonThen wsX7_wonThen ({ frames := 5, cells := 0, slots := 0, locals := 122 } : Room) [.ref (ad 0), .int p1, .int p2] u (pX7_wonThen F p1 p2 u) := by
  refine ctI_of (own := RX7) (cc := cX7_wonThen) (n := 3) (ret := (some .int)) (by decide) rfl rfl (Nat.le_of_ble_eq_true rfl) (lv := [(0, .ref (ad 0)), (1, .int p1), (2, .int p2)]) rfl (fun C => ?_)
  rw [pX7_wonThen]
  refine g_aload_n C 0 0 dX7_wonThen_0 rfl ?_
  refine g_iload_n C 1 1 dX7_wonThen_1 rfl ?_
  refine g_callVv (st := []) (As := [.int p1]) C E0_ok E0_vm 2 0 1 (tX7_docketGoes F p1 u) rfl gX7_wonThen_X7_docketGoes rfl rfl rfl (by decide +kernel) ⟨Nat.le_of_ble_eq_true rfl, Nat.le_of_ble_eq_true rfl⟩ rfl rfl rfl (Nat.le_of_ble_eq_true rfl) dX7_wonThen_2 (fun u1 => ?_)
  refine g_aload_n C 5 0 dX7_wonThen_5 rfl ?_
  refine g_sipush C 6 272 dX7_wonThen_6 rfl ?_
  refine g_iload_n C 9 2 dX7_wonThen_9 rfl ?_
  refine g_iconst C 10 1 dX7_wonThen_10 rfl ?_
  refine g_iadd C 11 dX7_wonThen_11 ?_
  refine g_callVi (st := []) (As := [.int 272, .int (p2 + 1)]) C E0_ok E0_vm 12 0 2 (tX7_wonOn F 272 (p2 + 1) u1) rfl gX7_wonThen_X7_wonOn rfl rfl rfl (by decide +kernel) ⟨Nat.le_of_ble_eq_true rfl, Nat.le_of_ble_eq_true rfl⟩ rfl rfl rfl (Nat.le_of_ble_eq_true rfl) dX7_wonThen_12 (fun r3 u2 => ?_)
  refine g_callSi (st := []) (As := [.int r3]) C E0_ok E0_vm 15 1 (tX7_bitsOf F r3 u2) rfl gX7_wonThen_X7_bitsOf rfl rfl rfl (by decide +kernel) ⟨Nat.le_of_ble_eq_true rfl, Nat.le_of_ble_eq_true rfl⟩ rfl (Nat.le_of_ble_eq_true rfl) dX7_wonThen_15 (fun r5 u4 => ?_)
  exact g_iret C 18 dX7_wonThen_18
def jX7_swap_169 (F : Nat) (p2 : Int32) (a7 : Int32) (a8 : Int32) (u9 : St) : Option (Int32 × St) :=
  if a8 = (-4) then some (a8, u9) else if p2 = 0 then some (a8, u9) else some (a7, u9)
def jX7_swap_163 (F : Nat) (x12 : Int32) (self14 : Int32 → Int32 → Int32 → St → Option (Int32 × St)) (a16 : Int32) (a17 : Int32) (u18 : St) : Option (Int32 × St) :=
  (self14 a16 a17 (x12 + 1) u18)
def bX7_swap_51 (F : Nat) (p1 : Int32) (x12 : Int32) (J163 : Int32 → Int32 → St → Option (Int32 × St)) (self23 : Int32 → Int32 → Int32 → St → Option (Int32 × St)) (x19 : Int32) (x20 : Int32) (x21 : Int32) (u22 : St) : Option (Int32 × St) :=
  gd (inb 55 408) (if (u22.2 0 (Int32.toNatClampNeg 55)) ≤ x21 then (J163 x19 x20 u22) else bd (pX7_copies F 0 340 u22) (fun (_ : Unit) (u24 : St) => gd (inb (62 + x21) 408) (gd (inb (402 + x12) 408) (vl (sta u24 0 (402 + x12) (u24.2 0 (Int32.toNatClampNeg (62 + x21)))) (fun (u25 : St) => gd (inb (62 + x12) 408) (gd (inb (402 + x21) 408) (vl (sta u25 0 (402 + x21) (u25.2 0 (Int32.toNatClampNeg (62 + x12)))) (fun (u26 : St) => bd (pX7_wonThen F 340 p1 u26) (fun (r28 : Int32) (u27 : St) => jn (fun (a29 : Int32) (u30 : St) => jn (fun (a31 : Int32) (u32 : St) => (self23 a31 a29 (x21 + 1) u32)) (fun (J156 : Int32 → St → Option (Int32 × St)) => if r28 ≤ x19 then (J156 x19 u30) else (J156 r28 u30))) (fun (J142 : Int32 → St → Option (Int32 × St)) => if r28 ≤ x19 then (J142 x20 u27) else (J142 ((10 * x12) + x21) u27)))))))))))
def bX7_swap_33 (F : Nat) (p1 : Int32) (J169 : Int32 → Int32 → St → Option (Int32 × St)) (self14 : Int32 → Int32 → Int32 → St → Option (Int32 × St)) (x10 : Int32) (x11 : Int32) (x12 : Int32) (u13 : St) : Option (Int32 × St) :=
  gd (inb 55 408) (if (u13.2 0 (Int32.toNatClampNeg 55)) ≤ x12 then (J169 x10 x11 u13) else vl (x12 + 1) (fun v15 => jn (jX7_swap_163 F x12 self14) (fun (J163 : Int32 → Int32 → St → Option (Int32 × St)) => (lq3 (bX7_swap_51 F p1 x12 J163) F x10 x11 v15 u13))))
def pX7_swap (F : Nat) (p1 : Int32) (p2 : Int32) (u : St) : Option (Int32 × St) :=
  bd (pX7_isSide F p1 u) (fun (r2 : Int32) (u1 : St) => if r2 = 0 then some ((-1), u1) else bd (pX7_in F (Int32.toInt64 p2) 0 1 u1) (fun (r4 : Int32) (u3 : St) => if r4 = 0 then some ((-1), u3) else bd (pX7_wonThen F 0 p1 u3) (fun (r6 : Int32) (u5 : St) => jn (jX7_swap_169 F p2) (fun (J169 : Int32 → Int32 → St → Option (Int32 × St)) => (lq3 (bX7_swap_33 F p1 J169) F r6 (-4) 0 u5)))))
set_option maxRecDepth 100000 in
set_option maxHeartbeats 4000000 in
theorem tX7_swap {l : Launch} {D : va_G} {cI cZ : ClassId} {ad : Nat → Nat} (F : Nat) (p1 : Int32) (p2 : Int32) (u : St) : CtI l D [(cI, .int), (cZ, .boolean)] (wM ad cI cZ) E0 yX7_swap wsX7_swap ({ frames := 6, cells := 0, slots := 0, locals := 144 } : Room) [.ref (ad 0), .int p1, .int p2] u (pX7_swap F p1 p2 u) := by
  refine ctI_of (own := RX7) (cc := cX7_swap) (n := 8) (ret := (some .int)) (by decide) rfl rfl (Nat.le_of_ble_eq_true rfl) (lv := [(0, .ref (ad 0)), (1, .int p1), (2, .int p2)]) rfl (fun C => ?_)
  have iX7 : ∀ w ∈ wsX70, w ∈ wsX7_swap := fun w h => List.mem_cons_of_mem _ (List.mem_append_right _ (inlX7 w h))
  rw [pX7_swap]
  refine g_iload_n C 0 1 dX7_swap_0 rfl ?_
  refine g_callSi (st := []) (As := [.int p1]) C E0_ok E0_vm 1 1 (tX7_isSide F p1 u) rfl gX7_swap_X7_isSide rfl rfl rfl (by decide +kernel) ⟨Nat.le_of_ble_eq_true rfl, Nat.le_of_ble_eq_true rfl⟩ rfl (Nat.le_of_ble_eq_true rfl) dX7_swap_1 (fun r2 u1 => ?_)
  refine g_if_eq C 4 17 dX7_swap_4 (by decide) ?_ ?_
  · skip
    refine g_iconst C 17 (-1) dX7_swap_17 rfl ?_
    exact g_iret C 18 dX7_swap_18
  · skip
    refine g_iload_n C 7 2 dX7_swap_7 rfl ?_
    refine g_i2l C 8 dX7_swap_8 ?_
    refine g_lconst C 9 0 dX7_swap_9 rfl ?_
    refine g_lconst C 10 1 dX7_swap_10 rfl ?_
    refine g_callSi (st := []) (As := [.long (Int32.toInt64 p2), .long 0, .long 1]) C E0_ok E0_vm 11 3 (tX7_in F (Int32.toInt64 p2) 0 1 u1) rfl gX7_swap_X7_in rfl rfl rfl (by decide +kernel) ⟨Nat.le_of_ble_eq_true rfl, Nat.le_of_ble_eq_true rfl⟩ rfl (Nat.le_of_ble_eq_true rfl) dX7_swap_11 (fun r4 u3 => ?_)
    refine g_if_ne C 14 19 dX7_swap_14 (by decide) ?_ ?_
    · skip
      refine g_aload_n C 19 0 dX7_swap_19 rfl ?_
      refine g_iconst C 20 0 dX7_swap_20 rfl ?_
      refine g_iload_n C 21 1 dX7_swap_21 rfl ?_
      refine g_callVi (st := []) (As := [.int 0, .int p1]) C E0_ok E0_vm 22 0 2 (tX7_wonThen F 0 p1 u3) rfl gX7_swap_X7_wonThen rfl rfl rfl (by decide +kernel) ⟨Nat.le_of_ble_eq_true rfl, Nat.le_of_ble_eq_true rfl⟩ rfl rfl rfl (Nat.le_of_ble_eq_true rfl) dX7_swap_22 (fun r6 u5 => ?_)
      refine g_istore_n C 25 [(3, .int r6), (0, .ref (ad 0)), (1, .int p1), (2, .int p2)] dX7_swap_25 (by decide) rfl ?_
      refine g_bipush C 26 (-4) dX7_swap_26 rfl ?_
      refine g_istore C 28 [(4, .int (-4)), (3, .int r6), (0, .ref (ad 0)), (1, .int p1), (2, .int p2)] dX7_swap_28 (by decide) rfl ?_
      refine g_iconst C 30 0 dX7_swap_30 rfl ?_
      refine g_istore C 31 [(5, .int 0), (4, .int (-4)), (3, .int r6), (0, .ref (ad 0)), (1, .int p1), (2, .int p2)] dX7_swap_31 (by decide) rfl ?_
      refine g_jn2 169 (fun (a7 : Int32) (a8 : Int32) => [(2, .int p2), (3, .int a7), (4, .int a8)]) (fun (a7 : Int32) (a8 : Int32) => []) (fun a7 a8 u9 => ?_) (fun J169 hJ169 => ?_)
      · skip
        rw [jX7_swap_169]
        refine g_iload C 169 2 dX7_swap_169 rfl ?_
        refine g_bipush C 171 (-4) dX7_swap_171 rfl ?_
        refine g_icmp_eq C 173 180 dX7_swap_173 (by decide) ?_ ?_
        · skip
          refine g_iload C 180 2 dX7_swap_180 rfl ?_
          refine g_goto C 182 186 dX7_swap_182 (by decide) ?_
          exact g_iret C 186 dX7_swap_186
        · skip
          refine g_iload_n C 176 0 dX7_swap_176 rfl ?_
          refine g_if_ne C 177 185 dX7_swap_177 (by decide) ?_ ?_
          · skip
            refine g_iload_n C 185 1 dX7_swap_185 rfl ?_
            exact g_iret C 186 dX7_swap_186
          · skip
            refine g_iload C 180 2 dX7_swap_180 rfl ?_
            refine g_goto C 182 186 dX7_swap_182 (by decide) ?_
            exact g_iret C 186 dX7_swap_186
      · skip
        refine g_sub _ [3, 4, 5, 2, 1, 0] rfl ?_
        refine g_lq3 (fun (x10 : Int32) (x11 : Int32) (x12 : Int32) => [(0, .ref (ad 0)), (1, .int p1), (2, .int p2), (3, .int x10), (4, .int x11), (5, .int x12)]) (fun self14 hself14 x10 x11 x12 u13 => ?_) F r6 (-4) 0 u5
        rw [bX7_swap_33]
        refine g_iload C 33 5 dX7_swap_33 rfl ?_
        refine g_aload_n C 35 0 dX7_swap_35 rfl ?_
        refine gfM_X7_state C 36 iX7 (List.mem_cons_of_mem _ (List.mem_append_right _ wgL_5_14.1)) dX7_swap_36 ?_
        refine g_bipush C 39 55 dX7_swap_39 rfl ?_
        refine g_iald C 41 (1 + 0) 0 (wM_arr 0 (by decide)) rfl dX7_swap_41 ?_
        refine g_icmp_ge C 42 169 dX7_swap_42 (by decide) ?_ ?_
        · skip
          exact g_sub _ [2, 3, 4] rfl (hJ169 x10 x11 u13)
        · skip
          refine g_iload C 45 5 dX7_swap_45 rfl ?_
          refine g_iconst C 47 1 dX7_swap_47 rfl ?_
          refine g_iadd C 48 dX7_swap_48 ?_
          refine g_istoreV C 49 (fun v15 => [(6, .int v15), (0, .ref (ad 0)), (1, .int p1), (2, .int p2), (3, .int x10), (4, .int x11), (5, .int x12)]) dX7_swap_49 (by decide) (fun _ => rfl) (fun v15 => ?_)
          refine g_jn2 163 (fun (a16 : Int32) (a17 : Int32) => [(0, .ref (ad 0)), (1, .int p1), (2, .int p2), (3, .int a16), (4, .int a17), (5, .int x12)]) (fun (a16 : Int32) (a17 : Int32) => []) (fun a16 a17 u18 => ?_) (fun J163 hJ163 => ?_)
          · skip
            rw [jX7_swap_163]
            refine g_iinc C 163 5 [(5, .int (x12 + 1)), (0, .ref (ad 0)), (1, .int p1), (2, .int p2), (3, .int a16), (4, .int a17)] dX7_swap_163 rfl rfl (by decide) rfl ?_
            refine g_goto C 166 33 dX7_swap_166 (by decide) ?_
            exact g_sub _ [1, 2, 3, 4, 5, 0] rfl (hself14 a16 a17 (x12 + 1) u18)
          · skip
            refine g_sub _ [1, 2, 3, 4, 5, 6, 0] rfl ?_
            refine g_lq3 (fun (x19 : Int32) (x20 : Int32) (x21 : Int32) => [(0, .ref (ad 0)), (1, .int p1), (2, .int p2), (3, .int x19), (4, .int x20), (5, .int x12), (6, .int x21)]) (fun self23 hself23 x19 x20 x21 u22 => ?_) F x10 x11 v15 u13
            rw [bX7_swap_51]
            refine g_iload C 51 6 dX7_swap_51 rfl ?_
            refine g_aload_n C 53 0 dX7_swap_53 rfl ?_
            refine gfM_X7_state C 54 iX7 (List.mem_cons_of_mem _ (List.mem_append_right _ wgL_5_14.1)) dX7_swap_54 ?_
            refine g_bipush C 57 55 dX7_swap_57 rfl ?_
            refine g_iald C 59 (1 + 0) 0 (wM_arr 0 (by decide)) rfl dX7_swap_59 ?_
            refine g_icmp_ge C 60 163 dX7_swap_60 (by decide) ?_ ?_
            · skip
              exact g_sub _ [0, 1, 2, 3, 4, 5] rfl (hJ163 x19 x20 u22)
            · skip
              refine g_aload_n C 63 0 dX7_swap_63 rfl ?_
              refine g_iconst C 64 0 dX7_swap_64 rfl ?_
              refine g_sipush C 65 340 dX7_swap_65 rfl ?_
              refine g_callVv (st := []) (As := [.int 0, .int 340]) C E0_ok E0_vm 68 0 2 (tX7_copies F 0 340 u22) rfl gX7_swap_X7_copies rfl rfl rfl (by decide +kernel) ⟨Nat.le_of_ble_eq_true rfl, Nat.le_of_ble_eq_true rfl⟩ rfl rfl rfl (Nat.le_of_ble_eq_true rfl) dX7_swap_68 (fun u24 => ?_)
              refine g_aload_n C 71 0 dX7_swap_71 rfl ?_
              refine gfM_X7_state C 72 iX7 (List.mem_cons_of_mem _ (List.mem_append_right _ wgL_5_14.1)) dX7_swap_72 ?_
              refine g_sipush C 75 402 dX7_swap_75 rfl ?_
              refine g_iload C 78 5 dX7_swap_78 rfl ?_
              refine g_iadd C 80 dX7_swap_80 ?_
              refine g_aload_n C 81 0 dX7_swap_81 rfl ?_
              refine gfM_X7_state C 82 iX7 (List.mem_cons_of_mem _ (List.mem_append_right _ wgL_5_14.1)) dX7_swap_82 ?_
              refine g_bipush C 85 62 dX7_swap_85 rfl ?_
              refine g_iload C 87 6 dX7_swap_87 rfl ?_
              refine g_iadd C 89 dX7_swap_89 ?_
              refine g_iald C 90 (1 + 0) 0 (wM_arr 0 (by decide)) rfl dX7_swap_90 ?_
              refine g_iast C 91 (1 + 0) 0 0 (wM_arr 0 (by decide)) (wM_aset 0 (by decide)) rfl dX7_swap_91 (fun u25 => ?_)
              refine g_aload_n C 92 0 dX7_swap_92 rfl ?_
              refine gfM_X7_state C 93 iX7 (List.mem_cons_of_mem _ (List.mem_append_right _ wgL_5_14.1)) dX7_swap_93 ?_
              refine g_sipush C 96 402 dX7_swap_96 rfl ?_
              refine g_iload C 99 6 dX7_swap_99 rfl ?_
              refine g_iadd C 101 dX7_swap_101 ?_
              refine g_aload_n C 102 0 dX7_swap_102 rfl ?_
              refine gfM_X7_state C 103 iX7 (List.mem_cons_of_mem _ (List.mem_append_right _ wgL_5_14.1)) dX7_swap_103 ?_
              refine g_bipush C 106 62 dX7_swap_106 rfl ?_
              refine g_iload C 108 5 dX7_swap_108 rfl ?_
              refine g_iadd C 110 dX7_swap_110 ?_
              refine g_iald C 111 (1 + 0) 0 (wM_arr 0 (by decide)) rfl dX7_swap_111 ?_
              refine g_iast C 112 (1 + 0) 0 0 (wM_arr 0 (by decide)) (wM_aset 0 (by decide)) rfl dX7_swap_112 (fun u26 => ?_)
              refine g_aload_n C 113 0 dX7_swap_113 rfl ?_
              refine g_sipush C 114 340 dX7_swap_114 rfl ?_
              refine g_iload_n C 117 1 dX7_swap_117 rfl ?_
              refine g_callVi (st := []) (As := [.int 340, .int p1]) C E0_ok E0_vm 118 0 2 (tX7_wonThen F 340 p1 u26) rfl gX7_swap_X7_wonThen rfl rfl rfl (by decide +kernel) ⟨Nat.le_of_ble_eq_true rfl, Nat.le_of_ble_eq_true rfl⟩ rfl rfl rfl (Nat.le_of_ble_eq_true rfl) dX7_swap_118 (fun r28 u27 => ?_)
              refine g_istore C 121 [(7, .int r28), (0, .ref (ad 0)), (1, .int p1), (2, .int p2), (3, .int x19), (4, .int x20), (5, .int x12), (6, .int x21)] dX7_swap_121 (by decide) rfl ?_
              refine g_iload C 123 0 dX7_swap_123 rfl ?_
              refine g_iload_n C 125 4 dX7_swap_125 rfl ?_
              refine g_jn1 142 (fun (a29 : Int32) => [(0, .ref (ad 0)), (1, .int p1), (2, .int p2), (3, .int x19), (5, .int x12), (6, .int x21), (7, .int r28)]) (fun (a29 : Int32) => [.int a29]) (fun a29 u30 => ?_) (fun J142 hJ142 => ?_)
              · skip
                refine g_istore C 142 [(4, .int a29), (0, .ref (ad 0)), (1, .int p1), (2, .int p2), (3, .int x19), (5, .int x12), (6, .int x21), (7, .int r28)] dX7_swap_142 (by decide) rfl ?_
                refine g_iload C 144 7 dX7_swap_144 rfl ?_
                refine g_iload_n C 146 4 dX7_swap_146 rfl ?_
                refine g_jn1 156 (fun (a31 : Int32) => [(0, .ref (ad 0)), (1, .int p1), (2, .int p2), (4, .int a29), (5, .int x12), (6, .int x21)]) (fun (a31 : Int32) => [.int a31]) (fun a31 u32 => ?_) (fun J156 hJ156 => ?_)
                · skip
                  refine g_istore_n C 156 [(3, .int a31), (0, .ref (ad 0)), (1, .int p1), (2, .int p2), (4, .int a29), (5, .int x12), (6, .int x21)] dX7_swap_156 (by decide) rfl ?_
                  refine g_iinc C 157 6 [(6, .int (x21 + 1)), (3, .int a31), (0, .ref (ad 0)), (1, .int p1), (2, .int p2), (4, .int a29), (5, .int x12)] dX7_swap_157 rfl rfl (by decide) rfl ?_
                  refine g_goto C 160 51 dX7_swap_160 (by decide) ?_
                  exact g_sub _ [2, 3, 4, 1, 5, 6, 0] rfl (hself23 a31 a29 (x21 + 1) u32)
                · skip
                  refine g_icmp_le C 147 155 dX7_swap_147 (by decide) ?_ ?_
                  · skip
                    refine g_iload_n C 155 4 dX7_swap_155 rfl ?_
                    exact g_sub _ [1, 2, 3, 0, 5, 6] rfl (hJ156 x19 u30)
                  · skip
                    refine g_iload C 150 7 dX7_swap_150 rfl ?_
                    refine g_goto C 152 156 dX7_swap_152 (by decide) ?_
                    exact g_sub _ [1, 2, 3, 0, 5, 6] rfl (hJ156 r28 u30)
              · skip
                refine g_icmp_le C 126 140 dX7_swap_126 (by decide) ?_ ?_
                · skip
                  refine g_iload C 140 5 dX7_swap_140 rfl ?_
                  exact g_sub _ [1, 2, 3, 4, 6, 7, 0] rfl (hJ142 x20 u27)
                · skip
                  refine g_bipush C 129 10 dX7_swap_129 rfl ?_
                  refine g_iload C 131 6 dX7_swap_131 rfl ?_
                  refine g_imul C 133 dX7_swap_133 ?_
                  refine g_iload C 134 7 dX7_swap_134 rfl ?_
                  refine g_iadd C 136 dX7_swap_136 ?_
                  refine g_goto C 137 142 dX7_swap_137 (by decide) ?_
                  exact g_sub _ [1, 2, 3, 4, 6, 7, 0] rfl (hJ142 ((10 * x12) + x21) u27)
    · skip
      refine g_iconst C 17 (-1) dX7_swap_17 rfl ?_
      exact g_iret C 18 dX7_swap_18
def jX7_lowest_31 (F : Nat) (p1 : Int64) (p2 : Int64) (p3 : Int32) (a1 : Int64) (u2 : St) : Option (Int64 × St) :=
  if p3 = 0 then gd (nzl a1) (some ((p1 / a1), u2)) else gd (nzl a1) (some ((p2 / a1), u2))
def bX7_lowest_6 (F : Nat) (J31 : Int64 → St → Option (Int64 × St)) (self6 : Int64 → Int64 → St → Option (Int64 × St)) (x3 : Int64) (x4 : Int64) (u5 : St) : Option (Int64 × St) :=
  if (lg_cmp x4 0) = 0 then (J31 x3 u5) else gd (nzl x4) (vl (lrm x3 x4) (fun v7 => (self6 x4 v7 u5)))
def pX7_lowest (F : Nat) (p1 : Int64) (p2 : Int64) (p3 : Int32) (u : St) : Option (Int64 × St) :=
  jn (jX7_lowest_31 F p1 p2 p3) (fun (J31 : Int64 → St → Option (Int64 × St)) => (lq2 (bX7_lowest_6 F J31) F p1 p2 u))
set_option maxRecDepth 100000 in
set_option maxHeartbeats 4000000 in
theorem tX7_lowest {l : Launch} {D : va_G} {cI cZ : ClassId} {ad : Nat → Nat} (F : Nat) (p1 : Int64) (p2 : Int64) (p3 : Int32) (u : St) : CtL l D [(cI, .int), (cZ, .boolean)] (wM ad cI cZ) E0 yX7_lowest wsX7_lowest ({ frames := 0, cells := 0, slots := 0, locals := 0 } : Room) [.long p1, .long p2, .int p3] u (pX7_lowest F p1 p2 p3 u) := by
  refine ctL_of (own := RX7) (cc := cX7_lowest) (n := 11) (ret := (some .long)) (by decide) rfl rfl (Nat.le_of_ble_eq_true rfl) (lv := [(0, .long p1), (2, .long p2), (4, .int p3)]) rfl (fun C => ?_)
  rw [pX7_lowest]
  refine g_lload_n C 0 0 dX7_lowest_0 rfl ?_
  refine g_lstore C 1 [(5, .long p1), (0, .long p1), (2, .long p2), (4, .int p3)] dX7_lowest_1 (by decide) rfl ?_
  refine g_lload_n C 3 2 dX7_lowest_3 rfl ?_
  refine g_lstore C 4 [(7, .long p2), (5, .long p1), (0, .long p1), (2, .long p2), (4, .int p3)] dX7_lowest_4 (by decide) rfl ?_
  refine g_jn1 31 (fun (a1 : Int64) => [(0, .long p1), (2, .long p2), (4, .int p3), (5, .long a1)]) (fun (a1 : Int64) => []) (fun a1 u2 => ?_) (fun J31 hJ31 => ?_)
  · skip
    rw [jX7_lowest_31]
    refine g_iload C 31 2 dX7_lowest_31 rfl ?_
    refine g_if_ne C 33 40 dX7_lowest_33 (by decide) ?_ ?_
    · skip
      refine g_lload_n C 40 1 dX7_lowest_40 rfl ?_
      refine g_lload C 41 3 dX7_lowest_41 rfl ?_
      refine g_ldiv C 43 dX7_lowest_43 ?_
      exact g_lret C 44 dX7_lowest_44
    · skip
      refine g_lload_n C 36 0 dX7_lowest_36 rfl ?_
      refine g_goto C 37 41 dX7_lowest_37 (by decide) ?_
      refine g_lload C 41 3 dX7_lowest_41 rfl ?_
      refine g_ldiv C 43 dX7_lowest_43 ?_
      exact g_lret C 44 dX7_lowest_44
  · skip
    refine g_sub _ [2, 3, 4, 1, 0] rfl ?_
    refine g_lq2 (fun (x3 : Int64) (x4 : Int64) => [(0, .long p1), (2, .long p2), (4, .int p3), (5, .long x3), (7, .long x4)]) (fun self6 hself6 x3 x4 u5 => ?_) F p1 p2 u
    rw [bX7_lowest_6]
    refine g_lload C 6 4 dX7_lowest_6 rfl ?_
    refine g_lconst C 8 0 dX7_lowest_8 rfl ?_
    refine g_lcmp C 9 dX7_lowest_9 ?_
    refine g_if_eq C 10 31 dX7_lowest_10 (by decide) ?_ ?_
    · skip
      exact g_sub _ [0, 1, 2, 3] rfl (hJ31 x3 u5)
    · skip
      refine g_lload C 13 3 dX7_lowest_13 rfl ?_
      refine g_lload C 15 4 dX7_lowest_15 rfl ?_
      refine g_lrem C 17 dX7_lowest_17 ?_
      refine g_lstoreV C 18 (fun v7 => [(9, .long v7), (0, .long p1), (2, .long p2), (4, .int p3), (5, .long x3), (7, .long x4)]) dX7_lowest_18 (by decide) (fun _ => rfl) (fun v7 => ?_)
      refine g_lload C 20 5 dX7_lowest_20 rfl ?_
      refine g_lstore C 22 [(5, .long x4), (9, .long v7), (0, .long p1), (2, .long p2), (4, .int p3), (7, .long x4)] dX7_lowest_22 (by decide) rfl ?_
      refine g_lload C 24 1 dX7_lowest_24 rfl ?_
      refine g_lstore C 26 [(7, .long v7), (5, .long x4), (9, .long v7), (0, .long p1), (2, .long p2), (4, .int p3)] dX7_lowest_26 (by decide) rfl ?_
      refine g_goto C 28 6 dX7_lowest_28 (by decide) ?_
      exact g_sub _ [3, 4, 5, 1, 0] rfl (hself6 x4 v7 u5)
end
section
def jX7_byAway_155 (F : Nat) (p5 : Int32) (a1 : Int64) (a3 : Int64) (u4 : St) : Option (Int64 × St) :=
  vl (stf u4 15 0) (fun (u5 : St) => bd (pX7_lowest F a3 a1 p5 u5) (fun (r7 : Int64) (u6 : St) => some (r7, u6)))
def jX7_byAway_102 (F : Nat) (p2 : Int32) (p3 : Int32) (p4 : Int32) (x8 : Int64) (x9 : Int32) (self11 : Int64 → Int32 → St → Option (Int64 × St)) (a12 : Int64) (u13 : St) : Option (Int64 × St) :=
  vl (stf u13 15 x9) (fun (u14 : St) => jn (fun (a15 : Int32) (u16 : St) => vl (x8 + (a12 * (Int32.toInt64 a15))) (fun v17 => (self11 v17 (x9 + 1) u16))) (fun (J144 : Int32 → St → Option (Int64 × St)) => if p2 = (-4) then bd (pX7_wonThen F 0 p3 u14) (fun (r21 : Int32) (u20 : St) => (J144 r21 u20)) else bd (pX7_isWonBy F 0 p2 p3 p4 u14) (fun (r19 : Int32) (u18 : St) => if r19 = 0 then (J144 0 u18) else (J144 1 u18))))
def bX7_byAway_58 (F : Nat) (p1 : Int32) (x9 : Int32) (J102 : Int64 → St → Option (Int64 × St)) (self25 : Int64 → Int32 → St → Option (Int64 × St)) (x22 : Int64) (x23 : Int32) (u24 : St) : Option (Int64 × St) :=
  gd (inb 46 408) (if (u24.2 0 (Int32.toNatClampNeg 46)) ≤ x23 then (J102 x22 u24) else jn (fun (a26 : Int64) (u27 : St) => vl (x22 * a26) (fun v28 => (self25 v28 (x23 + 1) u27))) (fun (J93 : Int64 → St → Option (Int64 × St)) => if ((x9 >>> (x23 &&& 31)) &&& 1) = 1 then (J93 (Int32.toInt64 p1) u24) else (J93 (Int32.toInt64 (10 - p1)) u24)))
def bX7_byAway_38 (F : Nat) (p1 : Int32) (p2 : Int32) (p3 : Int32) (p4 : Int32) (J155 : Int64 → St → Option (Int64 × St)) (self11 : Int64 → Int32 → St → Option (Int64 × St)) (x8 : Int64) (x9 : Int32) (u10 : St) : Option (Int64 × St) :=
  gd (inb 46 408) (if (1 <<< ((u10.2 0 (Int32.toNatClampNeg 46)) &&& 31)) ≤ x9 then (J155 x8 u10) else jn (jX7_byAway_102 F p2 p3 p4 x8 x9 self11) (fun (J102 : Int64 → St → Option (Int64 × St)) => (lq2 (bX7_byAway_58 F p1 x9 J102) F 1 0 u10)))
def jX7_byAway_35 (F : Nat) (p1 : Int32) (p2 : Int32) (p3 : Int32) (p4 : Int32) (p5 : Int32) (a1 : Int64) (u2 : St) : Option (Int64 × St) :=
  jn (jX7_byAway_155 F p5 a1) (fun (J155 : Int64 → St → Option (Int64 × St)) => (lq2 (bX7_byAway_38 F p1 p2 p3 p4 J155) F 0 0 u2))
def bX7_byAway_9 (F : Nat) (J35 : Int64 → St → Option (Int64 × St)) (self32 : Int64 → Int32 → St → Option (Int64 × St)) (x29 : Int64) (x30 : Int32) (u31 : St) : Option (Int64 × St) :=
  gd (inb 46 408) (if (u31.2 0 (Int32.toNatClampNeg 46)) ≤ x30 then (J35 x29 u31) else vl (x29 * 10) (fun v33 => (self32 v33 (x30 + 1) u31)))
def pX7_byAway (F : Nat) (p1 : Int32) (p2 : Int32) (p3 : Int32) (p4 : Int32) (p5 : Int32) (u : St) : Option (Int64 × St) :=
  jn (jX7_byAway_35 F p1 p2 p3 p4 p5) (fun (J35 : Int64 → St → Option (Int64 × St)) => (lq2 (bX7_byAway_9 F J35) F 1 0 u))
set_option maxRecDepth 100000 in
set_option maxHeartbeats 4000000 in
theorem tX7_byAway {l : Launch} {D : va_G} {cI cZ : ClassId} {ad : Nat → Nat} (F : Nat) (p1 : Int32) (p2 : Int32) (p3 : Int32) (p4 : Int32) (p5 : Int32) (u : St) : CtL l D [(cI, .int), (cZ, .boolean)] (wM ad cI cZ) E0 yX7_byAway wsX7_byAway ({ frames := 6, cells := 0, slots := 0, locals := 144 } : Room) [.ref (ad 0), .int p1, .int p2, .int p3, .int p4, .int p5] u (pX7_byAway F p1 p2 p3 p4 p5 u) := by
  refine ctL_of (own := RX7) (cc := cX7_byAway) (n := 14) (ret := (some .long)) (by decide) rfl rfl (Nat.le_of_ble_eq_true rfl) (lv := [(0, .ref (ad 0)), (1, .int p1), (2, .int p2), (3, .int p3), (4, .int p4), (5, .int p5)]) rfl (fun C => ?_)
  have iX7 : ∀ w ∈ wsX70, w ∈ wsX7_byAway := fun w h => List.mem_cons_of_mem _ (List.mem_append_right _ (inlX7 w h))
  rw [pX7_byAway]
  refine g_lconst C 0 0 dX7_byAway_0 rfl ?_
  refine g_lstore C 1 [(6, .long 0), (0, .ref (ad 0)), (1, .int p1), (2, .int p2), (3, .int p3), (4, .int p4), (5, .int p5)] dX7_byAway_1 (by decide) rfl ?_
  refine g_lconst C 3 1 dX7_byAway_3 rfl ?_
  refine g_lstore C 4 [(8, .long 1), (6, .long 0), (0, .ref (ad 0)), (1, .int p1), (2, .int p2), (3, .int p3), (4, .int p4), (5, .int p5)] dX7_byAway_4 (by decide) rfl ?_
  refine g_iconst C 6 0 dX7_byAway_6 rfl ?_
  refine g_istore C 7 [(10, .int 0), (8, .long 1), (6, .long 0), (0, .ref (ad 0)), (1, .int p1), (2, .int p2), (3, .int p3), (4, .int p4), (5, .int p5)] dX7_byAway_7 (by decide) rfl ?_
  refine g_jn1 35 (fun (a1 : Int64) => [(0, .ref (ad 0)), (1, .int p1), (2, .int p2), (3, .int p3), (4, .int p4), (5, .int p5), (6, .long 0), (8, .long a1)]) (fun (a1 : Int64) => []) (fun a1 u2 => ?_) (fun J35 hJ35 => ?_)
  · skip
    rw [jX7_byAway_35]
    refine g_iconst C 35 0 dX7_byAway_35 rfl ?_
    refine g_istore C 36 [(10, .int 0), (0, .ref (ad 0)), (1, .int p1), (2, .int p2), (3, .int p3), (4, .int p4), (5, .int p5), (6, .long 0), (8, .long a1)] dX7_byAway_36 (by decide) rfl ?_
    refine g_jn1 155 (fun (a3 : Int64) => [(0, .ref (ad 0)), (5, .int p5), (6, .long a3), (8, .long a1)]) (fun (a3 : Int64) => []) (fun a3 u4 => ?_) (fun J155 hJ155 => ?_)
    · skip
      rw [jX7_byAway_155]
      refine g_aload_n C 155 0 dX7_byAway_155 rfl ?_
      refine g_iconst C 156 0 dX7_byAway_156 rfl ?_
      refine pfM_X7_away C 157 iX7 (List.mem_cons_of_mem _ (List.mem_append_right _ wgL_28_3.1)) dX7_byAway_157 (fun u5 => ?_)
      refine g_lload C 160 2 dX7_byAway_160 rfl ?_
      refine g_lload C 162 3 dX7_byAway_162 rfl ?_
      refine g_iload C 164 1 dX7_byAway_164 rfl ?_
      refine g_callSl (st := []) (As := [.long a3, .long a1, .int p5]) C E0_ok E0_vm 166 3 (tX7_lowest F a3 a1 p5 u5) rfl gX7_byAway_X7_lowest rfl rfl rfl (by decide +kernel) ⟨Nat.le_of_ble_eq_true rfl, Nat.le_of_ble_eq_true rfl⟩ rfl (Nat.le_of_ble_eq_true rfl) dX7_byAway_166 (fun r7 u6 => ?_)
      exact g_lret C 169 dX7_byAway_169
    · skip
      refine g_sub _ [1, 2, 3, 4, 5, 6, 7, 8, 0] rfl ?_
      refine g_lq2 (fun (x8 : Int64) (x9 : Int32) => [(0, .ref (ad 0)), (1, .int p1), (2, .int p2), (3, .int p3), (4, .int p4), (5, .int p5), (6, .long x8), (8, .long a1), (10, .int x9)]) (fun self11 hself11 x8 x9 u10 => ?_) F 0 0 u2
      rw [bX7_byAway_38]
      refine g_iload C 38 8 dX7_byAway_38 rfl ?_
      refine g_iconst C 40 1 dX7_byAway_40 rfl ?_
      refine g_aload_n C 41 0 dX7_byAway_41 rfl ?_
      refine gfM_X7_state C 42 iX7 (List.mem_cons_of_mem _ (List.mem_append_right _ wgL_5_14.1)) dX7_byAway_42 ?_
      refine g_bipush C 45 46 dX7_byAway_45 rfl ?_
      refine g_iald C 47 (1 + 0) 0 (wM_arr 0 (by decide)) rfl dX7_byAway_47 ?_
      refine g_ishl C 48 dX7_byAway_48 ?_
      refine g_icmp_ge C 49 155 dX7_byAway_49 (by decide) ?_ ?_
      · skip
        exact g_sub _ [0, 5, 6, 7] rfl (hJ155 x8 u10)
      · skip
        refine g_lconst C 52 1 dX7_byAway_52 rfl ?_
        refine g_lstore C 53 [(11, .long 1), (0, .ref (ad 0)), (1, .int p1), (2, .int p2), (3, .int p3), (4, .int p4), (5, .int p5), (6, .long x8), (8, .long a1), (10, .int x9)] dX7_byAway_53 (by decide) rfl ?_
        refine g_iconst C 55 0 dX7_byAway_55 rfl ?_
        refine g_istore C 56 [(13, .int 0), (11, .long 1), (0, .ref (ad 0)), (1, .int p1), (2, .int p2), (3, .int p3), (4, .int p4), (5, .int p5), (6, .long x8), (8, .long a1), (10, .int x9)] dX7_byAway_56 (by decide) rfl ?_
        refine g_jn1 102 (fun (a12 : Int64) => [(0, .ref (ad 0)), (1, .int p1), (2, .int p2), (3, .int p3), (4, .int p4), (5, .int p5), (6, .long x8), (8, .long a1), (10, .int x9), (11, .long a12)]) (fun (a12 : Int64) => []) (fun a12 u13 => ?_) (fun J102 hJ102 => ?_)
        · skip
          rw [jX7_byAway_102]
          refine g_aload_n C 102 0 dX7_byAway_102 rfl ?_
          refine g_iload C 103 8 dX7_byAway_103 rfl ?_
          refine pfM_X7_away C 105 iX7 (List.mem_cons_of_mem _ (List.mem_append_right _ wgL_28_3.1)) dX7_byAway_105 (fun u14 => ?_)
          refine g_lload C 108 6 dX7_byAway_108 rfl ?_
          refine g_lload C 110 9 dX7_byAway_110 rfl ?_
          refine g_iload_n C 112 2 dX7_byAway_112 rfl ?_
          refine g_bipush C 113 (-4) dX7_byAway_113 rfl ?_
          refine g_jn1 144 (fun (a15 : Int32) => [(0, .ref (ad 0)), (1, .int p1), (2, .int p2), (3, .int p3), (4, .int p4), (5, .int p5), (8, .long a1), (10, .int x9)]) (fun (a15 : Int32) => [.int a15, .long a12, .long x8]) (fun a15 u16 => ?_) (fun J144 hJ144 => ?_)
          · skip
            refine g_i2l C 144 dX7_byAway_144 ?_
            refine g_lmul C 145 dX7_byAway_145 ?_
            refine g_ladd C 146 dX7_byAway_146 ?_
            refine g_lstoreV C 147 (fun v17 => [(6, .long v17), (0, .ref (ad 0)), (1, .int p1), (2, .int p2), (3, .int p3), (4, .int p4), (5, .int p5), (8, .long a1), (10, .int x9)]) dX7_byAway_147 (by decide) (fun _ => rfl) (fun v17 => ?_)
            refine g_iinc C 149 8 [(10, .int (x9 + 1)), (6, .long v17), (0, .ref (ad 0)), (1, .int p1), (2, .int p2), (3, .int p3), (4, .int p4), (5, .int p5), (8, .long a1)] dX7_byAway_149 rfl rfl (by decide) rfl ?_
            refine g_goto C 152 38 dX7_byAway_152 (by decide) ?_
            exact g_sub _ [2, 3, 4, 5, 6, 7, 1, 8, 0] rfl (hself11 v17 (x9 + 1) u16)
          · skip
            refine g_icmp_ne C 115 127 dX7_byAway_115 (by decide) ?_ ?_
            · skip
              refine g_aload_n C 127 0 dX7_byAway_127 rfl ?_
              refine g_iconst C 128 0 dX7_byAway_128 rfl ?_
              refine g_iload_n C 129 2 dX7_byAway_129 rfl ?_
              refine g_iload_n C 130 3 dX7_byAway_130 rfl ?_
              refine g_iload C 131 4 dX7_byAway_131 rfl ?_
              refine g_callVi (st := [.long a12, .long x8]) (As := [.int 0, .int p2, .int p3, .int p4]) C E0_ok E0_vm 133 0 4 (tX7_isWonBy F 0 p2 p3 p4 u14) rfl gX7_byAway_X7_isWonBy rfl rfl rfl (by decide +kernel) ⟨Nat.le_of_ble_eq_true rfl, Nat.le_of_ble_eq_true rfl⟩ rfl rfl rfl (Nat.le_of_ble_eq_true rfl) dX7_byAway_133 (fun r19 u18 => ?_)
              refine g_if_eq C 136 143 dX7_byAway_136 (by decide) ?_ ?_
              · skip
                refine g_iconst C 143 0 dX7_byAway_143 rfl ?_
                exact g_sub _ [0, 1, 2, 3, 4, 5, 7, 8] rfl (hJ144 0 u18)
              · skip
                refine g_iconst C 139 1 dX7_byAway_139 rfl ?_
                refine g_goto C 140 144 dX7_byAway_140 (by decide) ?_
                exact g_sub _ [0, 1, 2, 3, 4, 5, 7, 8] rfl (hJ144 1 u18)
            · skip
              refine g_aload_n C 118 0 dX7_byAway_118 rfl ?_
              refine g_iconst C 119 0 dX7_byAway_119 rfl ?_
              refine g_iload_n C 120 3 dX7_byAway_120 rfl ?_
              refine g_callVi (st := [.long a12, .long x8]) (As := [.int 0, .int p3]) C E0_ok E0_vm 121 0 2 (tX7_wonThen F 0 p3 u14) rfl gX7_byAway_X7_wonThen rfl rfl rfl (by decide +kernel) ⟨Nat.le_of_ble_eq_true rfl, Nat.le_of_ble_eq_true rfl⟩ rfl rfl rfl (Nat.le_of_ble_eq_true rfl) dX7_byAway_121 (fun r21 u20 => ?_)
              refine g_goto C 124 144 dX7_byAway_124 (by decide) ?_
              exact g_sub _ [0, 1, 2, 3, 4, 5, 7, 8] rfl (hJ144 r21 u20)
        · skip
          refine g_sub _ [2, 3, 4, 5, 6, 7, 8, 9, 10, 1, 0] rfl ?_
          refine g_lq2 (fun (x22 : Int64) (x23 : Int32) => [(0, .ref (ad 0)), (1, .int p1), (2, .int p2), (3, .int p3), (4, .int p4), (5, .int p5), (6, .long x8), (8, .long a1), (10, .int x9), (11, .long x22), (13, .int x23)]) (fun self25 hself25 x22 x23 u24 => ?_) F 1 0 u10
          rw [bX7_byAway_58]
          refine g_iload C 58 10 dX7_byAway_58 rfl ?_
          refine g_aload_n C 60 0 dX7_byAway_60 rfl ?_
          refine gfM_X7_state C 61 iX7 (List.mem_cons_of_mem _ (List.mem_append_right _ wgL_5_14.1)) dX7_byAway_61 ?_
          refine g_bipush C 64 46 dX7_byAway_64 rfl ?_
          refine g_iald C 66 (1 + 0) 0 (wM_arr 0 (by decide)) rfl dX7_byAway_66 ?_
          refine g_icmp_ge C 67 102 dX7_byAway_67 (by decide) ?_ ?_
          · skip
            exact g_sub _ [0, 1, 2, 3, 4, 5, 6, 7, 8, 9] rfl (hJ102 x22 u24)
          · skip
            refine g_lload C 70 9 dX7_byAway_70 rfl ?_
            refine g_iload C 72 8 dX7_byAway_72 rfl ?_
            refine g_iload C 74 10 dX7_byAway_74 rfl ?_
            refine g_ishr C 76 dX7_byAway_76 ?_
            refine g_iconst C 77 1 dX7_byAway_77 rfl ?_
            refine g_iand C 78 dX7_byAway_78 ?_
            refine g_iconst C 79 1 dX7_byAway_79 rfl ?_
            refine g_jn1 93 (fun (a26 : Int64) => [(0, .ref (ad 0)), (1, .int p1), (2, .int p2), (3, .int p3), (4, .int p4), (5, .int p5), (6, .long x8), (8, .long a1), (10, .int x9), (13, .int x23)]) (fun (a26 : Int64) => [.long a26, .long x22]) (fun a26 u27 => ?_) (fun J93 hJ93 => ?_)
            · skip
              refine g_lmul C 93 dX7_byAway_93 ?_
              refine g_lstoreV C 94 (fun v28 => [(11, .long v28), (0, .ref (ad 0)), (1, .int p1), (2, .int p2), (3, .int p3), (4, .int p4), (5, .int p5), (6, .long x8), (8, .long a1), (10, .int x9), (13, .int x23)]) dX7_byAway_94 (by decide) (fun _ => rfl) (fun v28 => ?_)
              refine g_iinc C 96 10 [(13, .int (x23 + 1)), (11, .long v28), (0, .ref (ad 0)), (1, .int p1), (2, .int p2), (3, .int p3), (4, .int p4), (5, .int p5), (6, .long x8), (8, .long a1), (10, .int x9)] dX7_byAway_96 rfl rfl (by decide) rfl ?_
              refine g_goto C 99 58 dX7_byAway_99 (by decide) ?_
              exact g_sub _ [2, 3, 4, 5, 6, 7, 8, 9, 10, 1, 0] rfl (hself25 v28 (x23 + 1) u27)
            · skip
              refine g_icmp_ne C 80 88 dX7_byAway_80 (by decide) ?_ ?_
              · skip
                refine g_bipush C 88 10 dX7_byAway_88 rfl ?_
                refine g_iload_n C 90 1 dX7_byAway_90 rfl ?_
                refine g_isub C 91 dX7_byAway_91 ?_
                refine g_i2l C 92 dX7_byAway_92 ?_
                exact g_sub _ [0, 1, 2, 3, 4, 5, 6, 7, 8, 10] rfl (hJ93 (Int32.toInt64 (10 - p1)) u24)
              · skip
                refine g_iload_n C 83 1 dX7_byAway_83 rfl ?_
                refine g_i2l C 84 dX7_byAway_84 ?_
                refine g_goto C 85 93 dX7_byAway_85 (by decide) ?_
                exact g_sub _ [0, 1, 2, 3, 4, 5, 6, 7, 8, 10] rfl (hJ93 (Int32.toInt64 p1) u24)
  · skip
    refine g_sub _ [3, 4, 5, 6, 7, 8, 2, 1, 0] rfl ?_
    refine g_lq2 (fun (x29 : Int64) (x30 : Int32) => [(0, .ref (ad 0)), (1, .int p1), (2, .int p2), (3, .int p3), (4, .int p4), (5, .int p5), (6, .long 0), (8, .long x29), (10, .int x30)]) (fun self32 hself32 x29 x30 u31 => ?_) F 1 0 u
    rw [bX7_byAway_9]
    refine g_iload C 9 8 dX7_byAway_9 rfl ?_
    refine g_aload_n C 11 0 dX7_byAway_11 rfl ?_
    refine gfM_X7_state C 12 iX7 (List.mem_cons_of_mem _ (List.mem_append_right _ wgL_5_14.1)) dX7_byAway_12 ?_
    refine g_bipush C 15 46 dX7_byAway_15 rfl ?_
    refine g_iald C 17 (1 + 0) 0 (wM_arr 0 (by decide)) rfl dX7_byAway_17 ?_
    refine g_icmp_ge C 18 35 dX7_byAway_18 (by decide) ?_ ?_
    · skip
      exact g_sub _ [0, 1, 2, 3, 4, 5, 6, 7] rfl (hJ35 x29 u31)
    · skip
      refine g_lload C 21 7 dX7_byAway_21 rfl ?_
      refine g_ldc2 C 23 10 (by decide +kernel) dX7_byAway_23 ?_
      refine g_lmul C 26 dX7_byAway_26 ?_
      refine g_lstoreV C 27 (fun v33 => [(8, .long v33), (0, .ref (ad 0)), (1, .int p1), (2, .int p2), (3, .int p3), (4, .int p4), (5, .int p5), (6, .long 0), (10, .int x30)]) dX7_byAway_27 (by decide) (fun _ => rfl) (fun v33 => ?_)
      refine g_iinc C 29 8 [(10, .int (x30 + 1)), (8, .long v33), (0, .ref (ad 0)), (1, .int p1), (2, .int p2), (3, .int p3), (4, .int p4), (5, .int p5), (6, .long 0)] dX7_byAway_29 rfl rfl (by decide) rfl ?_
      refine g_goto C 32 9 dX7_byAway_32 (by decide) ?_
      exact g_sub _ [2, 3, 4, 5, 6, 7, 8, 1, 0] rfl (hself32 v33 (x30 + 1) u31)
def pX7_luck (F : Nat) (p1 : Int32) (p2 : Int32) (p3 : Int32) (p4 : Int32) (p5 : Int32) (u : St) : Option (Int64 × St) :=
  bd (pX7_in F (Int32.toInt64 p1) 0 10 u) (fun (r2 : Int32) (u1 : St) => if r2 = 0 then some ((-1), u1) else bd (pX7_isHeard F p2 p4 u1) (fun (r4 : Int32) (u3 : St) => if r4 = 0 then some ((-1), u3) else bd (pX7_isSide F p3 u3) (fun (r6 : Int32) (u5 : St) => if r6 = 0 then some ((-1), u5) else bd (pX7_in F (Int32.toInt64 p5) 0 1 u5) (fun (r8 : Int32) (u7 : St) => if r8 = 0 then some ((-1), u7) else bd (pX7_byAway F p1 p2 p3 p4 p5 u7) (fun (r10 : Int64) (u9 : St) => some (r10, u9))))))
set_option maxRecDepth 100000 in
set_option maxHeartbeats 4000000 in
theorem tX7_luck {l : Launch} {D : va_G} {cI cZ : ClassId} {ad : Nat → Nat} (F : Nat) (p1 : Int32) (p2 : Int32) (p3 : Int32) (p4 : Int32) (p5 : Int32) (u : St) : CtL l D [(cI, .int), (cZ, .boolean)] (wM ad cI cZ) E0 yX7_luck wsX7_luck ({ frames := 7, cells := 0, slots := 0, locals := 177 } : Room) [.ref (ad 0), .int p1, .int p2, .int p3, .int p4, .int p5] u (pX7_luck F p1 p2 p3 p4 p5 u) := by
  refine ctL_of (own := RX7) (cc := cX7_luck) (n := 6) (ret := (some .long)) (by decide) rfl rfl (Nat.le_of_ble_eq_true rfl) (lv := [(0, .ref (ad 0)), (1, .int p1), (2, .int p2), (3, .int p3), (4, .int p4), (5, .int p5)]) rfl (fun C => ?_)
  rw [pX7_luck]
  refine g_iload_n C 0 1 dX7_luck_0 rfl ?_
  refine g_i2l C 1 dX7_luck_1 ?_
  refine g_lconst C 2 0 dX7_luck_2 rfl ?_
  refine g_ldc2 C 3 10 (by decide +kernel) dX7_luck_3 ?_
  refine g_callSi (st := []) (As := [.long (Int32.toInt64 p1), .long 0, .long 10]) C E0_ok E0_vm 6 3 (tX7_in F (Int32.toInt64 p1) 0 10 u) rfl gX7_luck_X7_in rfl rfl rfl (by decide +kernel) ⟨Nat.le_of_ble_eq_true rfl, Nat.le_of_ble_eq_true rfl⟩ rfl (Nat.le_of_ble_eq_true rfl) dX7_luck_6 (fun r2 u1 => ?_)
  refine g_if_eq C 9 54 dX7_luck_9 (by decide) ?_ ?_
  · skip
    refine g_ldc2 C 54 (-1) (by decide +kernel) dX7_luck_54 ?_
    exact g_lret C 57 dX7_luck_57
  · skip
    refine g_aload_n C 12 0 dX7_luck_12 rfl ?_
    refine g_iload_n C 13 2 dX7_luck_13 rfl ?_
    refine g_iload C 14 4 dX7_luck_14 rfl ?_
    refine g_callVi (st := []) (As := [.int p2, .int p4]) C E0_ok E0_vm 16 0 2 (tX7_isHeard F p2 p4 u1) rfl gX7_luck_X7_isHeard rfl rfl rfl (by decide +kernel) ⟨Nat.le_of_ble_eq_true rfl, Nat.le_of_ble_eq_true rfl⟩ rfl rfl rfl (Nat.le_of_ble_eq_true rfl) dX7_luck_16 (fun r4 u3 => ?_)
    refine g_if_eq C 19 54 dX7_luck_19 (by decide) ?_ ?_
    · skip
      refine g_ldc2 C 54 (-1) (by decide +kernel) dX7_luck_54 ?_
      exact g_lret C 57 dX7_luck_57
    · skip
      refine g_iload_n C 22 3 dX7_luck_22 rfl ?_
      refine g_callSi (st := []) (As := [.int p3]) C E0_ok E0_vm 23 1 (tX7_isSide F p3 u3) rfl gX7_luck_X7_isSide rfl rfl rfl (by decide +kernel) ⟨Nat.le_of_ble_eq_true rfl, Nat.le_of_ble_eq_true rfl⟩ rfl (Nat.le_of_ble_eq_true rfl) dX7_luck_23 (fun r6 u5 => ?_)
      refine g_if_eq C 26 54 dX7_luck_26 (by decide) ?_ ?_
      · skip
        refine g_ldc2 C 54 (-1) (by decide +kernel) dX7_luck_54 ?_
        exact g_lret C 57 dX7_luck_57
      · skip
        refine g_iload C 29 5 dX7_luck_29 rfl ?_
        refine g_i2l C 31 dX7_luck_31 ?_
        refine g_lconst C 32 0 dX7_luck_32 rfl ?_
        refine g_lconst C 33 1 dX7_luck_33 rfl ?_
        refine g_callSi (st := []) (As := [.long (Int32.toInt64 p5), .long 0, .long 1]) C E0_ok E0_vm 34 3 (tX7_in F (Int32.toInt64 p5) 0 1 u5) rfl gX7_luck_X7_in rfl rfl rfl (by decide +kernel) ⟨Nat.le_of_ble_eq_true rfl, Nat.le_of_ble_eq_true rfl⟩ rfl (Nat.le_of_ble_eq_true rfl) dX7_luck_34 (fun r8 u7 => ?_)
        refine g_if_eq C 37 54 dX7_luck_37 (by decide) ?_ ?_
        · skip
          refine g_ldc2 C 54 (-1) (by decide +kernel) dX7_luck_54 ?_
          exact g_lret C 57 dX7_luck_57
        · skip
          refine g_aload_n C 40 0 dX7_luck_40 rfl ?_
          refine g_iload_n C 41 1 dX7_luck_41 rfl ?_
          refine g_iload_n C 42 2 dX7_luck_42 rfl ?_
          refine g_iload_n C 43 3 dX7_luck_43 rfl ?_
          refine g_iload C 44 4 dX7_luck_44 rfl ?_
          refine g_iload C 46 5 dX7_luck_46 rfl ?_
          refine g_callVl (st := []) (As := [.int p1, .int p2, .int p3, .int p4, .int p5]) C E0_ok E0_vm 48 0 5 (tX7_byAway F p1 p2 p3 p4 p5 u7) rfl gX7_luck_X7_byAway rfl rfl rfl (by decide +kernel) ⟨Nat.le_of_ble_eq_true rfl, Nat.le_of_ble_eq_true rfl⟩ rfl rfl rfl (Nat.le_of_ble_eq_true rfl) dX7_luck_48 (fun r10 u9 => ?_)
          refine g_goto C 51 57 dX7_luck_51 (by decide) ?_
          exact g_lret C 57 dX7_luck_57
def pX7_mean (F : Nat) (p1 : Int32) (p2 : Int32) (p3 : Int32) (u : St) : Option (Int64 × St) :=
  bd (pX7_in F (Int32.toInt64 p1) 0 10 u) (fun (r2 : Int32) (u1 : St) => if r2 = 0 then some ((-1), u1) else bd (pX7_isSide F p2 u1) (fun (r4 : Int32) (u3 : St) => if r4 = 0 then some ((-1), u3) else bd (pX7_in F (Int32.toInt64 p3) 0 1 u3) (fun (r6 : Int32) (u5 : St) => if r6 = 0 then some ((-1), u5) else bd (pX7_byAway F p1 (-4) p2 (-4) p3 u5) (fun (r8 : Int64) (u7 : St) => some (r8, u7)))))
set_option maxRecDepth 100000 in
set_option maxHeartbeats 4000000 in
theorem tX7_mean {l : Launch} {D : va_G} {cI cZ : ClassId} {ad : Nat → Nat} (F : Nat) (p1 : Int32) (p2 : Int32) (p3 : Int32) (u : St) : CtL l D [(cI, .int), (cZ, .boolean)] (wM ad cI cZ) E0 yX7_mean wsX7_mean ({ frames := 7, cells := 0, slots := 0, locals := 177 } : Room) [.ref (ad 0), .int p1, .int p2, .int p3] u (pX7_mean F p1 p2 p3 u) := by
  refine ctL_of (own := RX7) (cc := cX7_mean) (n := 4) (ret := (some .long)) (by decide) rfl rfl (Nat.le_of_ble_eq_true rfl) (lv := [(0, .ref (ad 0)), (1, .int p1), (2, .int p2), (3, .int p3)]) rfl (fun C => ?_)
  rw [pX7_mean]
  refine g_iload_n C 0 1 dX7_mean_0 rfl ?_
  refine g_i2l C 1 dX7_mean_1 ?_
  refine g_lconst C 2 0 dX7_mean_2 rfl ?_
  refine g_ldc2 C 3 10 (by decide +kernel) dX7_mean_3 ?_
  refine g_callSi (st := []) (As := [.long (Int32.toInt64 p1), .long 0, .long 10]) C E0_ok E0_vm 6 3 (tX7_in F (Int32.toInt64 p1) 0 10 u) rfl gX7_mean_X7_in rfl rfl rfl (by decide +kernel) ⟨Nat.le_of_ble_eq_true rfl, Nat.le_of_ble_eq_true rfl⟩ rfl (Nat.le_of_ble_eq_true rfl) dX7_mean_6 (fun r2 u1 => ?_)
  refine g_if_eq C 9 43 dX7_mean_9 (by decide) ?_ ?_
  · skip
    refine g_ldc2 C 43 (-1) (by decide +kernel) dX7_mean_43 ?_
    exact g_lret C 46 dX7_mean_46
  · skip
    refine g_iload_n C 12 2 dX7_mean_12 rfl ?_
    refine g_callSi (st := []) (As := [.int p2]) C E0_ok E0_vm 13 1 (tX7_isSide F p2 u1) rfl gX7_mean_X7_isSide rfl rfl rfl (by decide +kernel) ⟨Nat.le_of_ble_eq_true rfl, Nat.le_of_ble_eq_true rfl⟩ rfl (Nat.le_of_ble_eq_true rfl) dX7_mean_13 (fun r4 u3 => ?_)
    refine g_if_eq C 16 43 dX7_mean_16 (by decide) ?_ ?_
    · skip
      refine g_ldc2 C 43 (-1) (by decide +kernel) dX7_mean_43 ?_
      exact g_lret C 46 dX7_mean_46
    · skip
      refine g_iload_n C 19 3 dX7_mean_19 rfl ?_
      refine g_i2l C 20 dX7_mean_20 ?_
      refine g_lconst C 21 0 dX7_mean_21 rfl ?_
      refine g_lconst C 22 1 dX7_mean_22 rfl ?_
      refine g_callSi (st := []) (As := [.long (Int32.toInt64 p3), .long 0, .long 1]) C E0_ok E0_vm 23 3 (tX7_in F (Int32.toInt64 p3) 0 1 u3) rfl gX7_mean_X7_in rfl rfl rfl (by decide +kernel) ⟨Nat.le_of_ble_eq_true rfl, Nat.le_of_ble_eq_true rfl⟩ rfl (Nat.le_of_ble_eq_true rfl) dX7_mean_23 (fun r6 u5 => ?_)
      refine g_if_eq C 26 43 dX7_mean_26 (by decide) ?_ ?_
      · skip
        refine g_ldc2 C 43 (-1) (by decide +kernel) dX7_mean_43 ?_
        exact g_lret C 46 dX7_mean_46
      · skip
        refine g_aload_n C 29 0 dX7_mean_29 rfl ?_
        refine g_iload_n C 30 1 dX7_mean_30 rfl ?_
        refine g_bipush C 31 (-4) dX7_mean_31 rfl ?_
        refine g_iload_n C 33 2 dX7_mean_33 rfl ?_
        refine g_bipush C 34 (-4) dX7_mean_34 rfl ?_
        refine g_iload_n C 36 3 dX7_mean_36 rfl ?_
        refine g_callVl (st := []) (As := [.int p1, .int (-4), .int p2, .int (-4), .int p3]) C E0_ok E0_vm 37 0 5 (tX7_byAway F p1 (-4) p2 (-4) p3 u5) rfl gX7_mean_X7_byAway rfl rfl rfl (by decide +kernel) ⟨Nat.le_of_ble_eq_true rfl, Nat.le_of_ble_eq_true rfl⟩ rfl rfl rfl (Nat.le_of_ble_eq_true rfl) dX7_mean_37 (fun r8 u7 => ?_)
        refine g_goto C 40 46 dX7_mean_40 (by decide) ?_
        exact g_lret C 46 dX7_mean_46
def pX7_see (F : Nat) (p1 : Int32) (p2 : Int32) (p3 : Int32) (u : St) : Option (Int32 × St) :=
  bd (pX7_isHeard F p1 p2 u) (fun (r2 : Int32) (u1 : St) => if r2 = 0 then some ((-1), u1) else bd (pX7_in F (Int32.toInt64 p3) 1 3 u1) (fun (r4 : Int32) (u3 : St) => if r4 = 0 then some ((-1), u3) else if (u3.1 21) = 6 then some ((-3), u3) else gd (inb (3 * (u3.1 21)) 18) (vl (sta u3 7 (3 * (u3.1 21)) p1) (fun (u5 : St) => gd (inb ((3 * (u5.1 21)) + 1) 18) (vl (sta u5 7 ((3 * (u5.1 21)) + 1) p2) (fun (u6 : St) => gd (inb ((3 * (u6.1 21)) + 2) 18) (vl (sta u6 7 ((3 * (u6.1 21)) + 2) p3) (fun (u7 : St) => vl (stf u7 21 ((u7.1 21) + 1)) (fun (u8 : St) => some ((u8.1 21), u8))))))))))
set_option maxRecDepth 100000 in
set_option maxHeartbeats 4000000 in
theorem tX7_see {l : Launch} {D : va_G} {cI cZ : ClassId} {ad : Nat → Nat} (F : Nat) (p1 : Int32) (p2 : Int32) (p3 : Int32) (u : St) : CtI l D [(cI, .int), (cZ, .boolean)] (wM ad cI cZ) E0 yX7_see wsX7_see ({ frames := 3, cells := 0, slots := 0, locals := 68 } : Room) [.ref (ad 0), .int p1, .int p2, .int p3] u (pX7_see F p1 p2 p3 u) := by
  refine ctI_of (own := RX7) (cc := cX7_see) (n := 4) (ret := (some .int)) (by decide) rfl rfl (Nat.le_of_ble_eq_true rfl) (lv := [(0, .ref (ad 0)), (1, .int p1), (2, .int p2), (3, .int p3)]) rfl (fun C => ?_)
  have iX7 : ∀ w ∈ wsX70, w ∈ wsX7_see := fun w h => List.mem_cons_of_mem _ (List.mem_append_right _ (inlX7 w h))
  rw [pX7_see]
  refine g_aload_n C 0 0 dX7_see_0 rfl ?_
  refine g_iload_n C 1 1 dX7_see_1 rfl ?_
  refine g_iload_n C 2 2 dX7_see_2 rfl ?_
  refine g_callVi (st := []) (As := [.int p1, .int p2]) C E0_ok E0_vm 3 0 2 (tX7_isHeard F p1 p2 u) rfl gX7_see_X7_isHeard rfl rfl rfl (by decide +kernel) ⟨Nat.le_of_ble_eq_true rfl, Nat.le_of_ble_eq_true rfl⟩ rfl rfl rfl (Nat.le_of_ble_eq_true rfl) dX7_see_3 (fun r2 u1 => ?_)
  refine g_if_eq C 6 21 dX7_see_6 (by decide) ?_ ?_
  · skip
    refine g_iconst C 21 (-1) dX7_see_21 rfl ?_
    exact g_iret C 22 dX7_see_22
  · skip
    refine g_iload_n C 9 3 dX7_see_9 rfl ?_
    refine g_i2l C 10 dX7_see_10 ?_
    refine g_lconst C 11 1 dX7_see_11 rfl ?_
    refine g_ldc2 C 12 3 (by decide +kernel) dX7_see_12 ?_
    refine g_callSi (st := []) (As := [.long (Int32.toInt64 p3), .long 1, .long 3]) C E0_ok E0_vm 15 3 (tX7_in F (Int32.toInt64 p3) 1 3 u1) rfl gX7_see_X7_in rfl rfl rfl (by decide +kernel) ⟨Nat.le_of_ble_eq_true rfl, Nat.le_of_ble_eq_true rfl⟩ rfl (Nat.le_of_ble_eq_true rfl) dX7_see_15 (fun r4 u3 => ?_)
    refine g_if_ne C 18 23 dX7_see_18 (by decide) ?_ ?_
    · skip
      refine g_aload_n C 23 0 dX7_see_23 rfl ?_
      refine gfM_X7_seenMany C 24 iX7 (List.mem_cons_of_mem _ (List.mem_append_right _ wgL_15_18.1)) dX7_see_24 ?_
      refine g_bipush C 27 6 dX7_see_27 rfl ?_
      refine g_icmp_ne C 29 35 dX7_see_29 (by decide) ?_ ?_
      · skip
        refine g_aload_n C 35 0 dX7_see_35 rfl ?_
        refine gfM_X7_seen C 36 iX7 (List.mem_cons_of_mem _ (List.mem_append_right _ wgL_5_21.1)) dX7_see_36 ?_
        refine g_iconst C 39 3 dX7_see_39 rfl ?_
        refine g_aload_n C 40 0 dX7_see_40 rfl ?_
        refine gfM_X7_seenMany C 41 iX7 (List.mem_cons_of_mem _ (List.mem_append_right _ wgL_15_18.1)) dX7_see_41 ?_
        refine g_imul C 44 dX7_see_44 ?_
        refine g_iload_n C 45 1 dX7_see_45 rfl ?_
        refine g_iast C 46 (1 + 7) 0 7 (wM_arr 7 (by decide)) (wM_aset 7 (by decide)) rfl dX7_see_46 (fun u5 => ?_)
        refine g_aload_n C 47 0 dX7_see_47 rfl ?_
        refine gfM_X7_seen C 48 iX7 (List.mem_cons_of_mem _ (List.mem_append_right _ wgL_5_21.1)) dX7_see_48 ?_
        refine g_iconst C 51 3 dX7_see_51 rfl ?_
        refine g_aload_n C 52 0 dX7_see_52 rfl ?_
        refine gfM_X7_seenMany C 53 iX7 (List.mem_cons_of_mem _ (List.mem_append_right _ wgL_15_18.1)) dX7_see_53 ?_
        refine g_imul C 56 dX7_see_56 ?_
        refine g_iconst C 57 1 dX7_see_57 rfl ?_
        refine g_iadd C 58 dX7_see_58 ?_
        refine g_iload_n C 59 2 dX7_see_59 rfl ?_
        refine g_iast C 60 (1 + 7) 0 7 (wM_arr 7 (by decide)) (wM_aset 7 (by decide)) rfl dX7_see_60 (fun u6 => ?_)
        refine g_aload_n C 61 0 dX7_see_61 rfl ?_
        refine gfM_X7_seen C 62 iX7 (List.mem_cons_of_mem _ (List.mem_append_right _ wgL_5_21.1)) dX7_see_62 ?_
        refine g_iconst C 65 3 dX7_see_65 rfl ?_
        refine g_aload_n C 66 0 dX7_see_66 rfl ?_
        refine gfM_X7_seenMany C 67 iX7 (List.mem_cons_of_mem _ (List.mem_append_right _ wgL_15_18.1)) dX7_see_67 ?_
        refine g_imul C 70 dX7_see_70 ?_
        refine g_iconst C 71 2 dX7_see_71 rfl ?_
        refine g_iadd C 72 dX7_see_72 ?_
        refine g_iload_n C 73 3 dX7_see_73 rfl ?_
        refine g_iast C 74 (1 + 7) 0 7 (wM_arr 7 (by decide)) (wM_aset 7 (by decide)) rfl dX7_see_74 (fun u7 => ?_)
        refine g_aload_n C 75 0 dX7_see_75 rfl ?_
        refine g_dup C 76 dX7_see_76 rfl ?_
        refine gfM_X7_seenMany C 77 iX7 (List.mem_cons_of_mem _ (List.mem_append_right _ wgL_15_18.1)) dX7_see_77 ?_
        refine g_iconst C 80 1 dX7_see_80 rfl ?_
        refine g_iadd C 81 dX7_see_81 ?_
        refine pfM_X7_seenMany C 82 iX7 (List.mem_cons_of_mem _ (List.mem_append_right _ wgL_15_18.1)) dX7_see_82 (fun u8 => ?_)
        refine g_aload_n C 85 0 dX7_see_85 rfl ?_
        refine gfM_X7_seenMany C 86 iX7 (List.mem_cons_of_mem _ (List.mem_append_right _ wgL_15_18.1)) dX7_see_86 ?_
        exact g_iret C 89 dX7_see_89
      · skip
        refine g_bipush C 32 (-3) dX7_see_32 rfl ?_
        exact g_iret C 34 dX7_see_34
    · skip
      refine g_iconst C 21 (-1) dX7_see_21 rfl ?_
      exact g_iret C 22 dX7_see_22
def pX7_forget (F : Nat) (p1 : Int32) (u : St) : Option (Int32 × St) :=
  bd (pX7_in F (Int32.toInt64 p1) 0 (Int32.toInt64 (u.1 21)) u) (fun (r2 : Int32) (u1 : St) => if r2 = 0 then some ((-1), u1) else vl (u1.1 21) (fun v3 => vl (stf u1 21 p1) (fun (u4 : St) => some (v3, u4))))
set_option maxRecDepth 100000 in
set_option maxHeartbeats 4000000 in
theorem tX7_forget {l : Launch} {D : va_G} {cI cZ : ClassId} {ad : Nat → Nat} (F : Nat) (p1 : Int32) (u : St) : CtI l D [(cI, .int), (cZ, .boolean)] (wM ad cI cZ) E0 yX7_forget wsX7_forget ({ frames := 1, cells := 0, slots := 0, locals := 25 } : Room) [.ref (ad 0), .int p1] u (pX7_forget F p1 u) := by
  refine ctI_of (own := RX7) (cc := cX7_forget) (n := 3) (ret := (some .int)) (by decide) rfl rfl (Nat.le_of_ble_eq_true rfl) (lv := [(0, .ref (ad 0)), (1, .int p1)]) rfl (fun C => ?_)
  have iX7 : ∀ w ∈ wsX70, w ∈ wsX7_forget := fun w h => List.mem_cons_of_mem _ (List.mem_append_right _ (inlX7 w h))
  rw [pX7_forget]
  refine g_iload_n C 0 1 dX7_forget_0 rfl ?_
  refine g_i2l C 1 dX7_forget_1 ?_
  refine g_lconst C 2 0 dX7_forget_2 rfl ?_
  refine g_aload_n C 3 0 dX7_forget_3 rfl ?_
  refine gfM_X7_seenMany C 4 iX7 (List.mem_cons_of_mem _ (List.mem_append_right _ wgL_15_18.1)) dX7_forget_4 ?_
  refine g_i2l C 7 dX7_forget_7 ?_
  refine g_callSi (st := []) (As := [.long (Int32.toInt64 p1), .long 0, .long (Int32.toInt64 (u.1 21))]) C E0_ok E0_vm 8 3 (tX7_in F (Int32.toInt64 p1) 0 (Int32.toInt64 (u.1 21)) u) rfl gX7_forget_X7_in rfl rfl rfl (by decide +kernel) ⟨Nat.le_of_ble_eq_true rfl, Nat.le_of_ble_eq_true rfl⟩ rfl (Nat.le_of_ble_eq_true rfl) dX7_forget_8 (fun r2 u1 => ?_)
  refine g_if_ne C 11 16 dX7_forget_11 (by decide) ?_ ?_
  · skip
    refine g_aload_n C 16 0 dX7_forget_16 rfl ?_
    refine gfM_X7_seenMany C 17 iX7 (List.mem_cons_of_mem _ (List.mem_append_right _ wgL_15_18.1)) dX7_forget_17 ?_
    refine g_istore_nV C 20 (fun v3 => [(2, .int v3), (0, .ref (ad 0)), (1, .int p1)]) dX7_forget_20 (by decide) (fun _ => rfl) (fun v3 => ?_)
    refine g_aload_n C 21 1 dX7_forget_21 rfl ?_
    refine g_iload_n C 22 2 dX7_forget_22 rfl ?_
    refine pfM_X7_seenMany C 23 iX7 (List.mem_cons_of_mem _ (List.mem_append_right _ wgL_15_18.1)) dX7_forget_23 (fun u4 => ?_)
    refine g_iload_n C 26 0 dX7_forget_26 rfl ?_
    exact g_iret C 27 dX7_forget_27
  · skip
    refine g_iconst C 14 (-1) dX7_forget_14 rfl ?_
    exact g_iret C 15 dX7_forget_15
def bX7_isAsSeen_4 (F : Nat)  (self4 : Int32 → Int32 → St → Option (Int32 × St)) (x1 : Int32) (x2 : Int32) (u3 : St) : Option (Int32 × St) :=
  if (u3.1 21) ≤ x2 then gd (z01 x1) (some (x1, u3)) else jn (fun (a5 : Int32) (u6 : St) => (self4 a5 (x2 + 1) u6)) (fun (J57 : Int32 → St → Option (Int32 × St)) => jn (fun (u7 : St) => (J57 0 u7)) (fun (J56 : St → Option (Int32 × St)) => if x1 = 0 then (J56 u3) else gd (inb (3 * x2) 18) (gd (inb ((3 * x2) + 1) 18) (bd (pX7_tries F 0 (u3.2 7 (Int32.toNatClampNeg (3 * x2))) (u3.2 7 (Int32.toNatClampNeg ((3 * x2) + 1))) u3) (fun (r9 : Int32) (u8 : St) => gd (inb ((3 * x2) + 2) 18) (if r9 = (u8.2 7 (Int32.toNatClampNeg ((3 * x2) + 2))) then (J57 1 u8) else (J56 u8)))))))
def pX7_isAsSeen (F : Nat)  (u : St) : Option (Int32 × St) :=
  (lq2 (bX7_isAsSeen_4 F) F 1 0 u)
set_option maxRecDepth 100000 in
set_option maxHeartbeats 4000000 in
theorem tX7_isAsSeen {l : Launch} {D : va_G} {cI cZ : ClassId} {ad : Nat → Nat} (F : Nat)  (u : St) : CtI l D [(cI, .int), (cZ, .boolean)] (wM ad cI cZ) E0 yX7_isAsSeen wsX7_isAsSeen ({ frames := 4, cells := 0, slots := 0, locals := 98 } : Room) [.ref (ad 0)] u (pX7_isAsSeen F u) := by
  refine ctI_of (own := RX7) (cc := cX7_isAsSeen) (n := 3) (ret := (some .boolean)) (by decide) rfl rfl (Nat.le_of_ble_eq_true rfl) (lv := [(0, .ref (ad 0))]) rfl (fun C => ?_)
  have iX7 : ∀ w ∈ wsX70, w ∈ wsX7_isAsSeen := fun w h => List.mem_cons_of_mem _ (List.mem_append_right _ (inlX7 w h))
  rw [pX7_isAsSeen]
  refine g_iconst C 0 1 dX7_isAsSeen_0 rfl ?_
  refine g_istore_n C 1 [(1, .int 1), (0, .ref (ad 0))] dX7_isAsSeen_1 (by decide) rfl ?_
  refine g_iconst C 2 0 dX7_isAsSeen_2 rfl ?_
  refine g_istore_n C 3 [(2, .int 0), (1, .int 1), (0, .ref (ad 0))] dX7_isAsSeen_3 (by decide) rfl ?_
  refine g_sub _ [2, 1, 0] rfl ?_
  refine g_lq2 (fun (x1 : Int32) (x2 : Int32) => [(0, .ref (ad 0)), (1, .int x1), (2, .int x2)]) (fun self4 hself4 x1 x2 u3 => ?_) F 1 0 u
  rw [bX7_isAsSeen_4]
  refine g_iload_n C 4 2 dX7_isAsSeen_4 rfl ?_
  refine g_aload_n C 5 0 dX7_isAsSeen_5 rfl ?_
  refine gfM_X7_seenMany C 6 iX7 (List.mem_cons_of_mem _ (List.mem_append_right _ wgL_15_18.1)) dX7_isAsSeen_6 ?_
  refine g_icmp_ge C 9 64 dX7_isAsSeen_9 (by decide) ?_ ?_
  · skip
    refine g_iload_n C 64 1 dX7_isAsSeen_64 rfl ?_
    exact g_zret C 65 dX7_isAsSeen_65
  · skip
    refine g_iload_n C 12 1 dX7_isAsSeen_12 rfl ?_
    refine g_jn1 57 (fun (a5 : Int32) => [(0, .ref (ad 0)), (2, .int x2)]) (fun (a5 : Int32) => [.int a5]) (fun a5 u6 => ?_) (fun J57 hJ57 => ?_)
    · skip
      refine g_istore_n C 57 [(1, .int a5), (0, .ref (ad 0)), (2, .int x2)] dX7_isAsSeen_57 (by decide) rfl ?_
      refine g_iinc C 58 2 [(2, .int (x2 + 1)), (1, .int a5), (0, .ref (ad 0))] dX7_isAsSeen_58 rfl rfl (by decide) rfl ?_
      refine g_goto C 61 4 dX7_isAsSeen_61 (by decide) ?_
      exact g_sub _ [2, 1, 0] rfl (hself4 a5 (x2 + 1) u6)
    · skip
      refine g_jn0 56 ([(0, .ref (ad 0)), (2, .int x2)]) ([]) (fun u7 => ?_) (fun J56 hJ56 => ?_)
      · skip
        refine g_iconst C 56 0 dX7_isAsSeen_56 rfl ?_
        exact g_sub _ [0, 1] rfl (hJ57 0 u7)
      · skip
        refine g_if_eq C 13 56 dX7_isAsSeen_13 (by decide) ?_ ?_
        · skip
          exact g_sub _ [0, 2] rfl (hJ56 u3)
        · skip
          refine g_aload_n C 16 0 dX7_isAsSeen_16 rfl ?_
          refine g_iconst C 17 0 dX7_isAsSeen_17 rfl ?_
          refine g_aload_n C 18 0 dX7_isAsSeen_18 rfl ?_
          refine gfM_X7_seen C 19 iX7 (List.mem_cons_of_mem _ (List.mem_append_right _ wgL_5_21.1)) dX7_isAsSeen_19 ?_
          refine g_iconst C 22 3 dX7_isAsSeen_22 rfl ?_
          refine g_iload_n C 23 2 dX7_isAsSeen_23 rfl ?_
          refine g_imul C 24 dX7_isAsSeen_24 ?_
          refine g_iald C 25 (1 + 7) 0 (wM_arr 7 (by decide)) rfl dX7_isAsSeen_25 ?_
          refine g_aload_n C 26 0 dX7_isAsSeen_26 rfl ?_
          refine gfM_X7_seen C 27 iX7 (List.mem_cons_of_mem _ (List.mem_append_right _ wgL_5_21.1)) dX7_isAsSeen_27 ?_
          refine g_iconst C 30 3 dX7_isAsSeen_30 rfl ?_
          refine g_iload_n C 31 2 dX7_isAsSeen_31 rfl ?_
          refine g_imul C 32 dX7_isAsSeen_32 ?_
          refine g_iconst C 33 1 dX7_isAsSeen_33 rfl ?_
          refine g_iadd C 34 dX7_isAsSeen_34 ?_
          refine g_iald C 35 (1 + 7) 0 (wM_arr 7 (by decide)) rfl dX7_isAsSeen_35 ?_
          refine g_callVi (st := []) (As := [.int 0, .int (u3.2 7 (Int32.toNatClampNeg (3 * x2))), .int (u3.2 7 (Int32.toNatClampNeg ((3 * x2) + 1)))]) C E0_ok E0_vm 36 0 3 (tX7_tries F 0 (u3.2 7 (Int32.toNatClampNeg (3 * x2))) (u3.2 7 (Int32.toNatClampNeg ((3 * x2) + 1))) u3) rfl gX7_isAsSeen_X7_tries rfl rfl rfl (by decide +kernel) ⟨Nat.le_of_ble_eq_true rfl, Nat.le_of_ble_eq_true rfl⟩ rfl rfl rfl (Nat.le_of_ble_eq_true rfl) dX7_isAsSeen_36 (fun r9 u8 => ?_)
          refine g_aload_n C 39 0 dX7_isAsSeen_39 rfl ?_
          refine gfM_X7_seen C 40 iX7 (List.mem_cons_of_mem _ (List.mem_append_right _ wgL_5_21.1)) dX7_isAsSeen_40 ?_
          refine g_iconst C 43 3 dX7_isAsSeen_43 rfl ?_
          refine g_iload_n C 44 2 dX7_isAsSeen_44 rfl ?_
          refine g_imul C 45 dX7_isAsSeen_45 ?_
          refine g_iconst C 46 2 dX7_isAsSeen_46 rfl ?_
          refine g_iadd C 47 dX7_isAsSeen_47 ?_
          refine g_iald C 48 (1 + 7) 0 (wM_arr 7 (by decide)) rfl dX7_isAsSeen_48 ?_
          refine g_icmp_ne C 49 56 dX7_isAsSeen_49 (by decide) ?_ ?_
          · skip
            exact g_sub _ [0, 2] rfl (hJ56 u8)
          · skip
            refine g_iconst C 52 1 dX7_isAsSeen_52 rfl ?_
            refine g_goto C 53 57 dX7_isAsSeen_53 (by decide) ?_
            exact g_sub _ [0, 2] rfl (hJ57 1 u8)
def jX7_habitsOf_94 (F : Nat) (p1 : Int32) (v1 : Int32) (a2 : Int32) (u3 : St) : Option (Int32 × St) :=
  gd (inb (40 + p1) 408) (vl (sta u3 0 (40 + p1) v1) (fun (u4 : St) => some (a2, u4)))
def jX7_habitsOf_88 (F : Nat) (x6 : Int32) (self8 : Int32 → Int32 → St → Option (Int32 × St)) (v14 : Int32)  (u15 : St) : Option (Int32 × St) :=
  (self8 v14 (x6 + 1) u15)
def bX7_habitsOf_53 (F : Nat) (p1 : Int32) (x6 : Int32) (J88 : St → Option (Int32 × St)) (self18 : Int32 → St → Option (Int32 × St)) (x16 : Int32) (u17 : St) : Option (Int32 × St) :=
  if (u17.1 0) ≤ x16 then (J88 u17) else bd (pX7_tries F 0 x16 p1 u17) (fun (r20 : Int32) (u19 : St) => gd (inb ((4 * x6) + x16) 16) (vl (sta u19 8 ((4 * x6) + x16) r20) (fun (u21 : St) => (self18 (x16 + 1) u21))))
def bX7_habitsOf_15 (F : Nat) (p1 : Int32) (J94 : Int32 → St → Option (Int32 × St)) (self8 : Int32 → Int32 → St → Option (Int32 × St)) (x5 : Int32) (x6 : Int32) (u7 : St) : Option (Int32 × St) :=
  if 4 ≤ x6 then (J94 x5 u7) else gd (inb (40 + p1) 408) (vl (sta u7 0 (40 + p1) x6) (fun (u9 : St) => bd (pX7_isAsSeen F u9) (fun (r11 : Int32) (u10 : St) => jn (fun (a12 : Int32) (u13 : St) => vl (x5 ||| a12) (fun v14 => jn (jX7_habitsOf_88 F x6 self8 v14) (fun (J88 : St → Option (Int32 × St)) => (lq1 (bX7_habitsOf_53 F p1 x6 J88) F 0 u13)))) (fun (J48 : Int32 → St → Option (Int32 × St)) => if r11 = 0 then (J48 0 u10) else (J48 (1 <<< (x6 &&& 31)) u10)))))
def pX7_habitsOf (F : Nat) (p1 : Int32) (u : St) : Option (Int32 × St) :=
  gd (inb (40 + p1) 408) (vl (u.2 0 (Int32.toNatClampNeg (40 + p1))) (fun v1 => jn (jX7_habitsOf_94 F p1 v1) (fun (J94 : Int32 → St → Option (Int32 × St)) => (lq2 (bX7_habitsOf_15 F p1 J94) F 0 0 u))))
set_option maxRecDepth 100000 in
set_option maxHeartbeats 4000000 in
theorem tX7_habitsOf {l : Launch} {D : va_G} {cI cZ : ClassId} {ad : Nat → Nat} (F : Nat) (p1 : Int32) (u : St) : CtI l D [(cI, .int), (cZ, .boolean)] (wM ad cI cZ) E0 yX7_habitsOf wsX7_habitsOf ({ frames := 5, cells := 0, slots := 0, locals := 120 } : Room) [.ref (ad 0), .int p1] u (pX7_habitsOf F p1 u) := by
  refine ctI_of (own := RX7) (cc := cX7_habitsOf) (n := 6) (ret := (some .int)) (by decide) rfl rfl (Nat.le_of_ble_eq_true rfl) (lv := [(0, .ref (ad 0)), (1, .int p1)]) rfl (fun C => ?_)
  have iX7 : ∀ w ∈ wsX70, w ∈ wsX7_habitsOf := fun w h => List.mem_cons_of_mem _ (List.mem_append_right _ (inlX7 w h))
  rw [pX7_habitsOf]
  refine g_aload_n C 0 0 dX7_habitsOf_0 rfl ?_
  refine gfM_X7_state C 1 iX7 (List.mem_cons_of_mem _ (List.mem_append_right _ wgL_5_14.1)) dX7_habitsOf_1 ?_
  refine g_bipush C 4 40 dX7_habitsOf_4 rfl ?_
  refine g_iload_n C 6 1 dX7_habitsOf_6 rfl ?_
  refine g_iadd C 7 dX7_habitsOf_7 ?_
  refine g_iald C 8 (1 + 0) 0 (wM_arr 0 (by decide)) rfl dX7_habitsOf_8 ?_
  refine g_istore_nV C 9 (fun v1 => [(2, .int v1), (0, .ref (ad 0)), (1, .int p1)]) dX7_habitsOf_9 (by decide) (fun _ => rfl) (fun v1 => ?_)
  refine g_iconst C 10 0 dX7_habitsOf_10 rfl ?_
  refine g_istore_n C 11 [(3, .int 0), (2, .int v1), (0, .ref (ad 0)), (1, .int p1)] dX7_habitsOf_11 (by decide) rfl ?_
  refine g_iconst C 12 0 dX7_habitsOf_12 rfl ?_
  refine g_istore C 13 [(4, .int 0), (3, .int 0), (2, .int v1), (0, .ref (ad 0)), (1, .int p1)] dX7_habitsOf_13 (by decide) rfl ?_
  refine g_jn1 94 (fun (a2 : Int32) => [(0, .ref (ad 0)), (1, .int p1), (2, .int v1), (3, .int a2)]) (fun (a2 : Int32) => []) (fun a2 u3 => ?_) (fun J94 hJ94 => ?_)
  · skip
    rw [jX7_habitsOf_94]
    refine g_aload_n C 94 0 dX7_habitsOf_94 rfl ?_
    refine gfM_X7_state C 95 iX7 (List.mem_cons_of_mem _ (List.mem_append_right _ wgL_5_14.1)) dX7_habitsOf_95 ?_
    refine g_bipush C 98 40 dX7_habitsOf_98 rfl ?_
    refine g_iload_n C 100 1 dX7_habitsOf_100 rfl ?_
    refine g_iadd C 101 dX7_habitsOf_101 ?_
    refine g_iload_n C 102 2 dX7_habitsOf_102 rfl ?_
    refine g_iast C 103 (1 + 0) 0 0 (wM_arr 0 (by decide)) (wM_aset 0 (by decide)) rfl dX7_habitsOf_103 (fun u4 => ?_)
    refine g_iload_n C 104 3 dX7_habitsOf_104 rfl ?_
    exact g_iret C 105 dX7_habitsOf_105
  · skip
    refine g_sub _ [3, 4, 2, 1, 0] rfl ?_
    refine g_lq2 (fun (x5 : Int32) (x6 : Int32) => [(0, .ref (ad 0)), (1, .int p1), (2, .int v1), (3, .int x5), (4, .int x6)]) (fun self8 hself8 x5 x6 u7 => ?_) F 0 0 u
    rw [bX7_habitsOf_15]
    refine g_iload C 15 4 dX7_habitsOf_15 rfl ?_
    refine g_iconst C 17 4 dX7_habitsOf_17 rfl ?_
    refine g_icmp_ge C 18 94 dX7_habitsOf_18 (by decide) ?_ ?_
    · skip
      exact g_sub _ [0, 1, 2, 3] rfl (hJ94 x5 u7)
    · skip
      refine g_aload_n C 21 0 dX7_habitsOf_21 rfl ?_
      refine gfM_X7_state C 22 iX7 (List.mem_cons_of_mem _ (List.mem_append_right _ wgL_5_14.1)) dX7_habitsOf_22 ?_
      refine g_bipush C 25 40 dX7_habitsOf_25 rfl ?_
      refine g_iload_n C 27 1 dX7_habitsOf_27 rfl ?_
      refine g_iadd C 28 dX7_habitsOf_28 ?_
      refine g_iload C 29 4 dX7_habitsOf_29 rfl ?_
      refine g_iast C 31 (1 + 0) 0 0 (wM_arr 0 (by decide)) (wM_aset 0 (by decide)) rfl dX7_habitsOf_31 (fun u9 => ?_)
      refine g_iload_n C 32 3 dX7_habitsOf_32 rfl ?_
      refine g_aload_n C 33 0 dX7_habitsOf_33 rfl ?_
      refine g_callVi (st := [.int x5]) (As := []) C E0_ok E0_vm 34 0 0 (tX7_isAsSeen F u9) rfl gX7_habitsOf_X7_isAsSeen rfl rfl rfl (by decide +kernel) ⟨Nat.le_of_ble_eq_true rfl, Nat.le_of_ble_eq_true rfl⟩ rfl rfl rfl (Nat.le_of_ble_eq_true rfl) dX7_habitsOf_34 (fun r11 u10 => ?_)
      refine g_jn1 48 (fun (a12 : Int32) => [(0, .ref (ad 0)), (1, .int p1), (2, .int v1), (4, .int x6)]) (fun (a12 : Int32) => [.int a12, .int x5]) (fun a12 u13 => ?_) (fun J48 hJ48 => ?_)
      · skip
        refine g_ior C 48 dX7_habitsOf_48 ?_
        refine g_istore_nV C 49 (fun v14 => [(3, .int v14), (0, .ref (ad 0)), (1, .int p1), (2, .int v1), (4, .int x6)]) dX7_habitsOf_49 (by decide) (fun _ => rfl) (fun v14 => ?_)
        refine g_iconst C 50 0 dX7_habitsOf_50 rfl ?_
        refine g_istore C 51 [(5, .int 0), (3, .int v14), (0, .ref (ad 0)), (1, .int p1), (2, .int v1), (4, .int x6)] dX7_habitsOf_51 (by decide) rfl ?_
        refine g_jn0 88 ([(0, .ref (ad 0)), (1, .int p1), (2, .int v1), (3, .int v14), (4, .int x6)]) ([]) (fun u15 => ?_) (fun J88 hJ88 => ?_)
        · skip
          rw [jX7_habitsOf_88]
          refine g_iinc C 88 4 [(4, .int (x6 + 1)), (0, .ref (ad 0)), (1, .int p1), (2, .int v1), (3, .int v14)] dX7_habitsOf_88 rfl rfl (by decide) rfl ?_
          refine g_goto C 91 15 dX7_habitsOf_91 (by decide) ?_
          exact g_sub _ [1, 2, 3, 4, 0] rfl (hself8 v14 (x6 + 1) u15)
        · skip
          refine g_sub _ [2, 3, 4, 1, 5, 0] rfl ?_
          refine g_lq1 (fun (x16 : Int32) => [(0, .ref (ad 0)), (1, .int p1), (2, .int v1), (3, .int v14), (4, .int x6), (5, .int x16)]) (fun self18 hself18 x16 u17 => ?_) F 0 u13
          rw [bX7_habitsOf_53]
          refine g_iload C 53 5 dX7_habitsOf_53 rfl ?_
          refine g_aload_n C 55 0 dX7_habitsOf_55 rfl ?_
          refine gfM_X7_caseMany C 56 iX7 (List.mem_cons_of_mem _ (List.mem_append_right _ wgL_15_16.1)) dX7_habitsOf_56 ?_
          refine g_icmp_ge C 59 88 dX7_habitsOf_59 (by decide) ?_ ?_
          · skip
            exact g_sub _ [0, 1, 2, 3, 4] rfl (hJ88 u17)
          · skip
            refine g_aload_n C 62 0 dX7_habitsOf_62 rfl ?_
            refine gfM_X7_verdictBy C 63 iX7 (List.mem_cons_of_mem _ (List.mem_append_right _ wgL_5_22.1)) dX7_habitsOf_63 ?_
            refine g_iconst C 66 4 dX7_habitsOf_66 rfl ?_
            refine g_iload C 67 4 dX7_habitsOf_67 rfl ?_
            refine g_imul C 69 dX7_habitsOf_69 ?_
            refine g_iload C 70 5 dX7_habitsOf_70 rfl ?_
            refine g_iadd C 72 dX7_habitsOf_72 ?_
            refine g_aload_n C 73 0 dX7_habitsOf_73 rfl ?_
            refine g_iconst C 74 0 dX7_habitsOf_74 rfl ?_
            refine g_iload C 75 5 dX7_habitsOf_75 rfl ?_
            refine g_iload_n C 77 1 dX7_habitsOf_77 rfl ?_
            refine g_callVi (st := [.int ((4 * x6) + x16), .ref (ad (1 + 8))]) (As := [.int 0, .int x16, .int p1]) C E0_ok E0_vm 78 0 3 (tX7_tries F 0 x16 p1 u17) rfl gX7_habitsOf_X7_tries rfl rfl rfl (by decide +kernel) ⟨Nat.le_of_ble_eq_true rfl, Nat.le_of_ble_eq_true rfl⟩ rfl rfl rfl (Nat.le_of_ble_eq_true rfl) dX7_habitsOf_78 (fun r20 u19 => ?_)
            refine g_iast C 81 (1 + 8) 0 8 (wM_arr 8 (by decide)) (wM_aset 8 (by decide)) rfl dX7_habitsOf_81 (fun u21 => ?_)
            refine g_iinc C 82 5 [(5, .int (x16 + 1)), (0, .ref (ad 0)), (1, .int p1), (2, .int v1), (3, .int v14), (4, .int x6)] dX7_habitsOf_82 rfl rfl (by decide) rfl ?_
            refine g_goto C 85 53 dX7_habitsOf_85 (by decide) ?_
            exact g_sub _ [1, 2, 3, 4, 5, 0] rfl (hself18 (x16 + 1) u21)
      · skip
        refine g_if_eq C 37 47 dX7_habitsOf_37 (by decide) ?_ ?_
        · skip
          refine g_iconst C 47 0 dX7_habitsOf_47 rfl ?_
          exact g_sub _ [0, 1, 2, 4] rfl (hJ48 0 u10)
        · skip
          refine g_iconst C 40 1 dX7_habitsOf_40 rfl ?_
          refine g_iload C 41 4 dX7_habitsOf_41 rfl ?_
          refine g_ishl C 43 dX7_habitsOf_43 ?_
          refine g_goto C 44 48 dX7_habitsOf_44 (by decide) ?_
          exact g_sub _ [0, 1, 2, 4] rfl (hJ48 (1 <<< (x6 &&& 31)) u10)
def pX7_habits (F : Nat) (p1 : Int32) (u : St) : Option (Int32 × St) :=
  bd (pX7_isJudge F p1 u) (fun (r2 : Int32) (u1 : St) => if r2 = 0 then some ((-1), u1) else bd (pX7_habitsOf F p1 u1) (fun (r4 : Int32) (u3 : St) => some (r4, u3)))
set_option maxRecDepth 100000 in
set_option maxHeartbeats 4000000 in
theorem tX7_habits {l : Launch} {D : va_G} {cI cZ : ClassId} {ad : Nat → Nat} (F : Nat) (p1 : Int32) (u : St) : CtI l D [(cI, .int), (cZ, .boolean)] (wM ad cI cZ) E0 yX7_habits wsX7_habits ({ frames := 6, cells := 0, slots := 0, locals := 145 } : Room) [.ref (ad 0), .int p1] u (pX7_habits F p1 u) := by
  refine ctI_of (own := RX7) (cc := cX7_habits) (n := 2) (ret := (some .int)) (by decide) rfl rfl (Nat.le_of_ble_eq_true rfl) (lv := [(0, .ref (ad 0)), (1, .int p1)]) rfl (fun C => ?_)
  rw [pX7_habits]
  refine g_aload_n C 0 0 dX7_habits_0 rfl ?_
  refine g_iload_n C 1 1 dX7_habits_1 rfl ?_
  refine g_callVi (st := []) (As := [.int p1]) C E0_ok E0_vm 2 0 1 (tX7_isJudge F p1 u) rfl gX7_habits_X7_isJudge rfl rfl rfl (by decide +kernel) ⟨Nat.le_of_ble_eq_true rfl, Nat.le_of_ble_eq_true rfl⟩ rfl rfl rfl (Nat.le_of_ble_eq_true rfl) dX7_habits_2 (fun r2 u1 => ?_)
  refine g_if_eq C 5 16 dX7_habits_5 (by decide) ?_ ?_
  · skip
    refine g_iconst C 16 (-1) dX7_habits_16 rfl ?_
    exact g_iret C 17 dX7_habits_17
  · skip
    refine g_aload_n C 8 0 dX7_habits_8 rfl ?_
    refine g_iload_n C 9 1 dX7_habits_9 rfl ?_
    refine g_callVi (st := []) (As := [.int p1]) C E0_ok E0_vm 10 0 1 (tX7_habitsOf F p1 u1) rfl gX7_habits_X7_habitsOf rfl rfl rfl (by decide +kernel) ⟨Nat.le_of_ble_eq_true rfl, Nat.le_of_ble_eq_true rfl⟩ rfl rfl rfl (Nat.le_of_ble_eq_true rfl) dX7_habits_10 (fun r4 u3 => ?_)
    refine g_goto C 13 17 dX7_habits_13 (by decide) ?_
    exact g_iret C 17 dX7_habits_17
def jX7_slows_67 (F : Nat) (p1 : Int32) (v3 : Int32) (a4 : Int32) (u5 : St) : Option (Int32 × St) :=
  gd (inb (43 + p1) 408) (vl (sta u5 0 (43 + p1) v3) (fun (u6 : St) => some (a4, u6)))
def bX7_slows_25 (F : Nat) (p1 : Int32) (J67 : Int32 → St → Option (Int32 × St)) (self10 : Int32 → Int32 → St → Option (Int32 × St)) (x7 : Int32) (x8 : Int32) (u9 : St) : Option (Int32 × St) :=
  if 9 < x8 then (J67 x7 u9) else gd (inb (43 + p1) 408) (vl (sta u9 0 (43 + p1) x8) (fun (u11 : St) => bd (pX7_isAsSeen F u11) (fun (r13 : Int32) (u12 : St) => jn (fun (a14 : Int32) (u15 : St) => vl (x7 ||| a14) (fun v16 => (self10 v16 (x8 + 1) u15))) (fun (J59 : Int32 → St → Option (Int32 × St)) => if r13 = 0 then (J59 0 u12) else (J59 (1 <<< (x8 &&& 31)) u12)))))
def pX7_slows (F : Nat) (p1 : Int32) (u : St) : Option (Int32 × St) :=
  bd (pX7_isJudge F p1 u) (fun (r2 : Int32) (u1 : St) => if r2 = 0 then some ((-1), u1) else gd (inb (43 + p1) 408) (vl (u1.2 0 (Int32.toNatClampNeg (43 + p1))) (fun v3 => jn (jX7_slows_67 F p1 v3) (fun (J67 : Int32 → St → Option (Int32 × St)) => (lq2 (bX7_slows_25 F p1 J67) F 0 1 u1)))))
set_option maxRecDepth 100000 in
set_option maxHeartbeats 4000000 in
theorem tX7_slows {l : Launch} {D : va_G} {cI cZ : ClassId} {ad : Nat → Nat} (F : Nat) (p1 : Int32) (u : St) : CtI l D [(cI, .int), (cZ, .boolean)] (wM ad cI cZ) E0 yX7_slows wsX7_slows ({ frames := 5, cells := 0, slots := 0, locals := 120 } : Room) [.ref (ad 0), .int p1] u (pX7_slows F p1 u) := by
  refine ctI_of (own := RX7) (cc := cX7_slows) (n := 5) (ret := (some .int)) (by decide) rfl rfl (Nat.le_of_ble_eq_true rfl) (lv := [(0, .ref (ad 0)), (1, .int p1)]) rfl (fun C => ?_)
  have iX7 : ∀ w ∈ wsX70, w ∈ wsX7_slows := fun w h => List.mem_cons_of_mem _ (List.mem_append_right _ (inlX7 w h))
  rw [pX7_slows]
  refine g_aload_n C 0 0 dX7_slows_0 rfl ?_
  refine g_iload_n C 1 1 dX7_slows_1 rfl ?_
  refine g_callVi (st := []) (As := [.int p1]) C E0_ok E0_vm 2 0 1 (tX7_isJudge F p1 u) rfl gX7_slows_X7_isJudge rfl rfl rfl (by decide +kernel) ⟨Nat.le_of_ble_eq_true rfl, Nat.le_of_ble_eq_true rfl⟩ rfl rfl rfl (Nat.le_of_ble_eq_true rfl) dX7_slows_2 (fun r2 u1 => ?_)
  refine g_if_ne C 5 10 dX7_slows_5 (by decide) ?_ ?_
  · skip
    refine g_aload_n C 10 0 dX7_slows_10 rfl ?_
    refine gfM_X7_state C 11 iX7 (List.mem_cons_of_mem _ (List.mem_append_right _ wgL_5_14.1)) dX7_slows_11 ?_
    refine g_bipush C 14 43 dX7_slows_14 rfl ?_
    refine g_iload_n C 16 1 dX7_slows_16 rfl ?_
    refine g_iadd C 17 dX7_slows_17 ?_
    refine g_iald C 18 (1 + 0) 0 (wM_arr 0 (by decide)) rfl dX7_slows_18 ?_
    refine g_istore_nV C 19 (fun v3 => [(2, .int v3), (0, .ref (ad 0)), (1, .int p1)]) dX7_slows_19 (by decide) (fun _ => rfl) (fun v3 => ?_)
    refine g_iconst C 20 0 dX7_slows_20 rfl ?_
    refine g_istore_n C 21 [(3, .int 0), (2, .int v3), (0, .ref (ad 0)), (1, .int p1)] dX7_slows_21 (by decide) rfl ?_
    refine g_iconst C 22 1 dX7_slows_22 rfl ?_
    refine g_istore C 23 [(4, .int 1), (3, .int 0), (2, .int v3), (0, .ref (ad 0)), (1, .int p1)] dX7_slows_23 (by decide) rfl ?_
    refine g_jn1 67 (fun (a4 : Int32) => [(0, .ref (ad 0)), (1, .int p1), (2, .int v3), (3, .int a4)]) (fun (a4 : Int32) => []) (fun a4 u5 => ?_) (fun J67 hJ67 => ?_)
    · skip
      rw [jX7_slows_67]
      refine g_aload_n C 67 0 dX7_slows_67 rfl ?_
      refine gfM_X7_state C 68 iX7 (List.mem_cons_of_mem _ (List.mem_append_right _ wgL_5_14.1)) dX7_slows_68 ?_
      refine g_bipush C 71 43 dX7_slows_71 rfl ?_
      refine g_iload_n C 73 1 dX7_slows_73 rfl ?_
      refine g_iadd C 74 dX7_slows_74 ?_
      refine g_iload_n C 75 2 dX7_slows_75 rfl ?_
      refine g_iast C 76 (1 + 0) 0 0 (wM_arr 0 (by decide)) (wM_aset 0 (by decide)) rfl dX7_slows_76 (fun u6 => ?_)
      refine g_iload_n C 77 3 dX7_slows_77 rfl ?_
      exact g_iret C 78 dX7_slows_78
    · skip
      refine g_sub _ [3, 4, 2, 1, 0] rfl ?_
      refine g_lq2 (fun (x7 : Int32) (x8 : Int32) => [(0, .ref (ad 0)), (1, .int p1), (2, .int v3), (3, .int x7), (4, .int x8)]) (fun self10 hself10 x7 x8 u9 => ?_) F 0 1 u1
      rw [bX7_slows_25]
      refine g_iload C 25 4 dX7_slows_25 rfl ?_
      refine g_bipush C 27 9 dX7_slows_27 rfl ?_
      refine g_icmp_gt C 29 67 dX7_slows_29 (by decide) ?_ ?_
      · skip
        exact g_sub _ [0, 1, 2, 3] rfl (hJ67 x7 u9)
      · skip
        refine g_aload_n C 32 0 dX7_slows_32 rfl ?_
        refine gfM_X7_state C 33 iX7 (List.mem_cons_of_mem _ (List.mem_append_right _ wgL_5_14.1)) dX7_slows_33 ?_
        refine g_bipush C 36 43 dX7_slows_36 rfl ?_
        refine g_iload_n C 38 1 dX7_slows_38 rfl ?_
        refine g_iadd C 39 dX7_slows_39 ?_
        refine g_iload C 40 4 dX7_slows_40 rfl ?_
        refine g_iast C 42 (1 + 0) 0 0 (wM_arr 0 (by decide)) (wM_aset 0 (by decide)) rfl dX7_slows_42 (fun u11 => ?_)
        refine g_iload_n C 43 3 dX7_slows_43 rfl ?_
        refine g_aload_n C 44 0 dX7_slows_44 rfl ?_
        refine g_callVi (st := [.int x7]) (As := []) C E0_ok E0_vm 45 0 0 (tX7_isAsSeen F u11) rfl gX7_slows_X7_isAsSeen rfl rfl rfl (by decide +kernel) ⟨Nat.le_of_ble_eq_true rfl, Nat.le_of_ble_eq_true rfl⟩ rfl rfl rfl (Nat.le_of_ble_eq_true rfl) dX7_slows_45 (fun r13 u12 => ?_)
        refine g_jn1 59 (fun (a14 : Int32) => [(0, .ref (ad 0)), (1, .int p1), (2, .int v3), (4, .int x8)]) (fun (a14 : Int32) => [.int a14, .int x7]) (fun a14 u15 => ?_) (fun J59 hJ59 => ?_)
        · skip
          refine g_ior C 59 dX7_slows_59 ?_
          refine g_istore_nV C 60 (fun v16 => [(3, .int v16), (0, .ref (ad 0)), (1, .int p1), (2, .int v3), (4, .int x8)]) dX7_slows_60 (by decide) (fun _ => rfl) (fun v16 => ?_)
          refine g_iinc C 61 4 [(4, .int (x8 + 1)), (3, .int v16), (0, .ref (ad 0)), (1, .int p1), (2, .int v3)] dX7_slows_61 rfl rfl (by decide) rfl ?_
          refine g_goto C 64 25 dX7_slows_64 (by decide) ?_
          exact g_sub _ [2, 3, 4, 1, 0] rfl (hself10 v16 (x8 + 1) u15)
        · skip
          refine g_if_eq C 48 58 dX7_slows_48 (by decide) ?_ ?_
          · skip
            refine g_iconst C 58 0 dX7_slows_58 rfl ?_
            exact g_sub _ [0, 1, 2, 4] rfl (hJ59 0 u12)
          · skip
            refine g_iconst C 51 1 dX7_slows_51 rfl ?_
            refine g_iload C 52 4 dX7_slows_52 rfl ?_
            refine g_ishl C 54 dX7_slows_54 ?_
            refine g_goto C 55 59 dX7_slows_55 (by decide) ?_
            exact g_sub _ [0, 1, 2, 4] rfl (hJ59 (1 <<< (x8 &&& 31)) u12)
  · skip
    refine g_iconst C 8 (-1) dX7_slows_8 rfl ?_
    exact g_iret C 9 dX7_slows_9
def jX7_ask_195 (F : Nat) (p2 : Int32) (a9 : Int32) (a10 : Int32) (u11 : St) : Option (Int32 × St) :=
  if a10 = (-4) then some (a10, u11) else if p2 = 0 then some (a10, u11) else some (a9, u11)
def jX7_ask_157 (F : Nat) (x12 : Int32) (x13 : Int32) (x14 : Int32) (self16 : Int32 → Int32 → Int32 → St → Option (Int32 × St)) (a17 : Int32) (u18 : St) : Option (Int32 × St) :=
  jn (fun (a19 : Int32) (u20 : St) => jn (fun (a21 : Int32) (u22 : St) => (self16 a21 a19 (x14 + 1) u22)) (fun (J187 : Int32 → St → Option (Int32 × St)) => if x12 ≤ a17 then (J187 x12 u20) else (J187 a17 u20))) (fun (J171 : Int32 → St → Option (Int32 × St)) => if x12 ≤ a17 then (J171 x13 u18) else (J171 x14 u18))
def jX7_ask_135 (F : Nat) (x23 : Int32) (x24 : Int32) (self26 : Int32 → Int32 → St → Option (Int32 × St)) (a27 : Int32) (u28 : St) : Option (Int32 × St) :=
  jn (fun (a29 : Int32) (u30 : St) => (self26 a29 (x24 + 1) u30)) (fun (J149 : Int32 → St → Option (Int32 × St)) => if a27 ≤ x23 then (J149 x23 u28) else (J149 a27 u28))
def bX7_ask_66 (F : Nat) (r6 : Int32) (x14 : Int32) (x24 : Int32) (J135 : Int32 → St → Option (Int32 × St)) (self34 : Int32 → Int32 → St → Option (Int32 × St)) (x31 : Int32) (x32 : Int32) (u33 : St) : Option (Int32 × St) :=
  if 4 ≤ x32 then (J135 x31 u33) else if ((r6 >>> (x24 &&& 31)) &&& 1) = 1 then jn (fun (a35 : Int32) (u36 : St) => vl (x31 + a35) (fun v37 => (self34 v37 (x32 + 1) u36))) (fun (J126 : Int32 → St → Option (Int32 × St)) => jn (fun (u38 : St) => (J126 0 u38)) (fun (J125 : St → Option (Int32 × St)) => if ((r6 >>> (x32 &&& 31)) &&& 1) = 1 then gd (inb ((4 * x24) + x14) 16) (gd (inb ((4 * x32) + x14) 16) (if (u33.2 8 (Int32.toNatClampNeg ((4 * x24) + x14))) = (u33.2 8 (Int32.toNatClampNeg ((4 * x32) + x14))) then (J126 1 u33) else (J125 u33))) else (J125 u33))) else (J135 x31 u33)
def bX7_ask_54 (F : Nat) (r6 : Int32) (x14 : Int32) (J157 : Int32 → St → Option (Int32 × St)) (self26 : Int32 → Int32 → St → Option (Int32 × St)) (x23 : Int32) (x24 : Int32) (u25 : St) : Option (Int32 × St) :=
  if 4 ≤ x24 then (J157 x23 u25) else jn (jX7_ask_135 F x23 x24 self26) (fun (J135 : Int32 → St → Option (Int32 × St)) => (lq2 (bX7_ask_66 F r6 x14 x24 J135) F 0 0 u25))
def bX7_ask_39 (F : Nat) (r6 : Int32) (J195 : Int32 → Int32 → St → Option (Int32 × St)) (self16 : Int32 → Int32 → Int32 → St → Option (Int32 × St)) (x12 : Int32) (x13 : Int32) (x14 : Int32) (u15 : St) : Option (Int32 × St) :=
  if (u15.1 0) ≤ x14 then (J195 x12 x13 u15) else jn (jX7_ask_157 F x12 x13 x14 self16) (fun (J157 : Int32 → St → Option (Int32 × St)) => (lq2 (bX7_ask_54 F r6 x14 J157) F 0 0 u15))
def pX7_ask (F : Nat) (p1 : Int32) (p2 : Int32) (u : St) : Option (Int32 × St) :=
  bd (pX7_isJudge F p1 u) (fun (r2 : Int32) (u1 : St) => if r2 = 0 then some ((-1), u1) else bd (pX7_in F (Int32.toInt64 p2) 0 1 u1) (fun (r4 : Int32) (u3 : St) => if r4 = 0 then some ((-1), u3) else bd (pX7_habitsOf F p1 u3) (fun (r6 : Int32) (u5 : St) => bd (pX7_bitsOf F r6 u5) (fun (r8 : Int32) (u7 : St) => jn (jX7_ask_195 F p2) (fun (J195 : Int32 → Int32 → St → Option (Int32 × St)) => (lq3 (bX7_ask_39 F r6 J195) F r8 (-4) 0 u7))))))
set_option maxRecDepth 100000 in
set_option maxHeartbeats 4000000 in
theorem tX7_ask {l : Launch} {D : va_G} {cI cZ : ClassId} {ad : Nat → Nat} (F : Nat) (p1 : Int32) (p2 : Int32) (u : St) : CtI l D [(cI, .int), (cZ, .boolean)] (wM ad cI cZ) E0 yX7_ask wsX7_ask ({ frames := 6, cells := 0, slots := 0, locals := 145 } : Room) [.ref (ad 0), .int p1, .int p2] u (pX7_ask F p1 p2 u) := by
  refine ctI_of (own := RX7) (cc := cX7_ask) (n := 11) (ret := (some .int)) (by decide) rfl rfl (Nat.le_of_ble_eq_true rfl) (lv := [(0, .ref (ad 0)), (1, .int p1), (2, .int p2)]) rfl (fun C => ?_)
  have iX7 : ∀ w ∈ wsX70, w ∈ wsX7_ask := fun w h => List.mem_cons_of_mem _ (List.mem_append_right _ (inlX7 w h))
  rw [pX7_ask]
  refine g_aload_n C 0 0 dX7_ask_0 rfl ?_
  refine g_iload_n C 1 1 dX7_ask_1 rfl ?_
  refine g_callVi (st := []) (As := [.int p1]) C E0_ok E0_vm 2 0 1 (tX7_isJudge F p1 u) rfl gX7_ask_X7_isJudge rfl rfl rfl (by decide +kernel) ⟨Nat.le_of_ble_eq_true rfl, Nat.le_of_ble_eq_true rfl⟩ rfl rfl rfl (Nat.le_of_ble_eq_true rfl) dX7_ask_2 (fun r2 u1 => ?_)
  refine g_if_eq C 5 18 dX7_ask_5 (by decide) ?_ ?_
  · skip
    refine g_iconst C 18 (-1) dX7_ask_18 rfl ?_
    exact g_iret C 19 dX7_ask_19
  · skip
    refine g_iload_n C 8 2 dX7_ask_8 rfl ?_
    refine g_i2l C 9 dX7_ask_9 ?_
    refine g_lconst C 10 0 dX7_ask_10 rfl ?_
    refine g_lconst C 11 1 dX7_ask_11 rfl ?_
    refine g_callSi (st := []) (As := [.long (Int32.toInt64 p2), .long 0, .long 1]) C E0_ok E0_vm 12 3 (tX7_in F (Int32.toInt64 p2) 0 1 u1) rfl gX7_ask_X7_in rfl rfl rfl (by decide +kernel) ⟨Nat.le_of_ble_eq_true rfl, Nat.le_of_ble_eq_true rfl⟩ rfl (Nat.le_of_ble_eq_true rfl) dX7_ask_12 (fun r4 u3 => ?_)
    refine g_if_ne C 15 20 dX7_ask_15 (by decide) ?_ ?_
    · skip
      refine g_aload_n C 20 0 dX7_ask_20 rfl ?_
      refine g_iload_n C 21 1 dX7_ask_21 rfl ?_
      refine g_callVi (st := []) (As := [.int p1]) C E0_ok E0_vm 22 0 1 (tX7_habitsOf F p1 u3) rfl gX7_ask_X7_habitsOf rfl rfl rfl (by decide +kernel) ⟨Nat.le_of_ble_eq_true rfl, Nat.le_of_ble_eq_true rfl⟩ rfl rfl rfl (Nat.le_of_ble_eq_true rfl) dX7_ask_22 (fun r6 u5 => ?_)
      refine g_istore_n C 25 [(3, .int r6), (0, .ref (ad 0)), (1, .int p1), (2, .int p2)] dX7_ask_25 (by decide) rfl ?_
      refine g_iload_n C 26 0 dX7_ask_26 rfl ?_
      refine g_callSi (st := []) (As := [.int r6]) C E0_ok E0_vm 27 1 (tX7_bitsOf F r6 u5) rfl gX7_ask_X7_bitsOf rfl rfl rfl (by decide +kernel) ⟨Nat.le_of_ble_eq_true rfl, Nat.le_of_ble_eq_true rfl⟩ rfl (Nat.le_of_ble_eq_true rfl) dX7_ask_27 (fun r8 u7 => ?_)
      refine g_istore C 30 [(4, .int r8), (3, .int r6), (0, .ref (ad 0)), (1, .int p1), (2, .int p2)] dX7_ask_30 (by decide) rfl ?_
      refine g_bipush C 32 (-4) dX7_ask_32 rfl ?_
      refine g_istore C 34 [(5, .int (-4)), (4, .int r8), (3, .int r6), (0, .ref (ad 0)), (1, .int p1), (2, .int p2)] dX7_ask_34 (by decide) rfl ?_
      refine g_iconst C 36 0 dX7_ask_36 rfl ?_
      refine g_istore C 37 [(6, .int 0), (5, .int (-4)), (4, .int r8), (3, .int r6), (0, .ref (ad 0)), (1, .int p1), (2, .int p2)] dX7_ask_37 (by decide) rfl ?_
      refine g_jn2 195 (fun (a9 : Int32) (a10 : Int32) => [(2, .int p2), (4, .int a9), (5, .int a10)]) (fun (a9 : Int32) (a10 : Int32) => []) (fun a9 a10 u11 => ?_) (fun J195 hJ195 => ?_)
      · skip
        rw [jX7_ask_195]
        refine g_iload C 195 2 dX7_ask_195 rfl ?_
        refine g_bipush C 197 (-4) dX7_ask_197 rfl ?_
        refine g_icmp_eq C 199 206 dX7_ask_199 (by decide) ?_ ?_
        · skip
          refine g_iload C 206 2 dX7_ask_206 rfl ?_
          refine g_goto C 208 213 dX7_ask_208 (by decide) ?_
          exact g_iret C 213 dX7_ask_213
        · skip
          refine g_iload_n C 202 0 dX7_ask_202 rfl ?_
          refine g_if_ne C 203 211 dX7_ask_203 (by decide) ?_ ?_
          · skip
            refine g_iload C 211 1 dX7_ask_211 rfl ?_
            exact g_iret C 213 dX7_ask_213
          · skip
            refine g_iload C 206 2 dX7_ask_206 rfl ?_
            refine g_goto C 208 213 dX7_ask_208 (by decide) ?_
            exact g_iret C 213 dX7_ask_213
      · skip
        refine g_sub _ [4, 6, 3, 2, 1, 0] rfl ?_
        refine g_lq3 (fun (x12 : Int32) (x13 : Int32) (x14 : Int32) => [(0, .ref (ad 0)), (2, .int p2), (3, .int r6), (4, .int x12), (5, .int x13), (6, .int x14)]) (fun self16 hself16 x12 x13 x14 u15 => ?_) F r8 (-4) 0 u7
        rw [bX7_ask_39]
        refine g_iload C 39 5 dX7_ask_39 rfl ?_
        refine g_aload_n C 41 0 dX7_ask_41 rfl ?_
        refine gfM_X7_caseMany C 42 iX7 (List.mem_cons_of_mem _ (List.mem_append_right _ wgL_15_16.1)) dX7_ask_42 ?_
        refine g_icmp_ge C 45 195 dX7_ask_45 (by decide) ?_ ?_
        · skip
          exact g_sub _ [1, 3, 4] rfl (hJ195 x12 x13 u15)
        · skip
          refine g_iconst C 48 0 dX7_ask_48 rfl ?_
          refine g_istore C 49 [(7, .int 0), (0, .ref (ad 0)), (2, .int p2), (3, .int r6), (4, .int x12), (5, .int x13), (6, .int x14)] dX7_ask_49 (by decide) rfl ?_
          refine g_iconst C 51 0 dX7_ask_51 rfl ?_
          refine g_istore C 52 [(8, .int 0), (7, .int 0), (0, .ref (ad 0)), (2, .int p2), (3, .int r6), (4, .int x12), (5, .int x13), (6, .int x14)] dX7_ask_52 (by decide) rfl ?_
          refine g_jn1 157 (fun (a17 : Int32) => [(0, .ref (ad 0)), (2, .int p2), (3, .int r6), (4, .int x12), (5, .int x13), (6, .int x14), (7, .int a17)]) (fun (a17 : Int32) => []) (fun a17 u18 => ?_) (fun J157 hJ157 => ?_)
          · skip
            rw [jX7_ask_157]
            refine g_iload C 157 6 dX7_ask_157 rfl ?_
            refine g_iload C 159 3 dX7_ask_159 rfl ?_
            refine g_jn1 171 (fun (a19 : Int32) => [(0, .ref (ad 0)), (2, .int p2), (3, .int r6), (4, .int x12), (6, .int x14), (7, .int a17)]) (fun (a19 : Int32) => [.int a19]) (fun a19 u20 => ?_) (fun J171 hJ171 => ?_)
            · skip
              refine g_istore C 171 [(5, .int a19), (0, .ref (ad 0)), (2, .int p2), (3, .int r6), (4, .int x12), (6, .int x14), (7, .int a17)] dX7_ask_171 (by decide) rfl ?_
              refine g_iload C 173 6 dX7_ask_173 rfl ?_
              refine g_iload C 175 4 dX7_ask_175 rfl ?_
              refine g_jn1 187 (fun (a21 : Int32) => [(0, .ref (ad 0)), (2, .int p2), (3, .int r6), (5, .int a19), (6, .int x14)]) (fun (a21 : Int32) => [.int a21]) (fun a21 u22 => ?_) (fun J187 hJ187 => ?_)
              · skip
                refine g_istore C 187 [(4, .int a21), (0, .ref (ad 0)), (2, .int p2), (3, .int r6), (5, .int a19), (6, .int x14)] dX7_ask_187 (by decide) rfl ?_
                refine g_iinc C 189 5 [(6, .int (x14 + 1)), (4, .int a21), (0, .ref (ad 0)), (2, .int p2), (3, .int r6), (5, .int a19)] dX7_ask_189 rfl rfl (by decide) rfl ?_
                refine g_goto C 192 39 dX7_ask_192 (by decide) ?_
                exact g_sub _ [2, 3, 4, 1, 5, 0] rfl (hself16 a21 a19 (x14 + 1) u22)
              · skip
                refine g_icmp_ge C 177 185 dX7_ask_177 (by decide) ?_ ?_
                · skip
                  refine g_iload C 185 4 dX7_ask_185 rfl ?_
                  exact g_sub _ [1, 2, 3, 0, 5] rfl (hJ187 x12 u20)
                · skip
                  refine g_iload C 180 6 dX7_ask_180 rfl ?_
                  refine g_goto C 182 187 dX7_ask_182 (by decide) ?_
                  exact g_sub _ [1, 2, 3, 0, 5] rfl (hJ187 a17 u20)
            · skip
              refine g_icmp_ge C 161 169 dX7_ask_161 (by decide) ?_ ?_
              · skip
                refine g_iload C 169 4 dX7_ask_169 rfl ?_
                exact g_sub _ [0, 1, 2, 3, 5, 6] rfl (hJ171 x13 u18)
              · skip
                refine g_iload C 164 5 dX7_ask_164 rfl ?_
                refine g_goto C 166 171 dX7_ask_166 (by decide) ?_
                exact g_sub _ [0, 1, 2, 3, 5, 6] rfl (hJ171 x14 u18)
          · skip
            refine g_sub _ [2, 3, 4, 5, 6, 7, 1, 0] rfl ?_
            refine g_lq2 (fun (x23 : Int32) (x24 : Int32) => [(0, .ref (ad 0)), (2, .int p2), (3, .int r6), (4, .int x12), (5, .int x13), (6, .int x14), (7, .int x23), (8, .int x24)]) (fun self26 hself26 x23 x24 u25 => ?_) F 0 0 u15
            rw [bX7_ask_54]
            refine g_iload C 54 7 dX7_ask_54 rfl ?_
            refine g_iconst C 56 4 dX7_ask_56 rfl ?_
            refine g_icmp_ge C 57 157 dX7_ask_57 (by decide) ?_ ?_
            · skip
              exact g_sub _ [0, 1, 2, 3, 4, 5, 6] rfl (hJ157 x23 u25)
            · skip
              refine g_iconst C 60 0 dX7_ask_60 rfl ?_
              refine g_istore C 61 [(9, .int 0), (0, .ref (ad 0)), (2, .int p2), (3, .int r6), (4, .int x12), (5, .int x13), (6, .int x14), (7, .int x23), (8, .int x24)] dX7_ask_61 (by decide) rfl ?_
              refine g_iconst C 63 0 dX7_ask_63 rfl ?_
              refine g_istore C 64 [(10, .int 0), (9, .int 0), (0, .ref (ad 0)), (2, .int p2), (3, .int r6), (4, .int x12), (5, .int x13), (6, .int x14), (7, .int x23), (8, .int x24)] dX7_ask_64 (by decide) rfl ?_
              refine g_jn1 135 (fun (a27 : Int32) => [(0, .ref (ad 0)), (2, .int p2), (3, .int r6), (4, .int x12), (5, .int x13), (6, .int x14), (7, .int x23), (8, .int x24), (9, .int a27)]) (fun (a27 : Int32) => []) (fun a27 u28 => ?_) (fun J135 hJ135 => ?_)
              · skip
                rw [jX7_ask_135]
                refine g_iload C 135 8 dX7_ask_135 rfl ?_
                refine g_iload C 137 6 dX7_ask_137 rfl ?_
                refine g_jn1 149 (fun (a29 : Int32) => [(0, .ref (ad 0)), (2, .int p2), (3, .int r6), (4, .int x12), (5, .int x13), (6, .int x14), (8, .int x24)]) (fun (a29 : Int32) => [.int a29]) (fun a29 u30 => ?_) (fun J149 hJ149 => ?_)
                · skip
                  refine g_istore C 149 [(7, .int a29), (0, .ref (ad 0)), (2, .int p2), (3, .int r6), (4, .int x12), (5, .int x13), (6, .int x14), (8, .int x24)] dX7_ask_149 (by decide) rfl ?_
                  refine g_iinc C 151 7 [(8, .int (x24 + 1)), (7, .int a29), (0, .ref (ad 0)), (2, .int p2), (3, .int r6), (4, .int x12), (5, .int x13), (6, .int x14)] dX7_ask_151 rfl rfl (by decide) rfl ?_
                  refine g_goto C 154 54 dX7_ask_154 (by decide) ?_
                  exact g_sub _ [2, 3, 4, 5, 6, 7, 1, 0] rfl (hself26 a29 (x24 + 1) u30)
                · skip
                  refine g_icmp_le C 139 147 dX7_ask_139 (by decide) ?_ ?_
                  · skip
                    refine g_iload C 147 6 dX7_ask_147 rfl ?_
                    exact g_sub _ [0, 1, 2, 3, 4, 5, 7] rfl (hJ149 x23 u28)
                  · skip
                    refine g_iload C 142 8 dX7_ask_142 rfl ?_
                    refine g_goto C 144 149 dX7_ask_144 (by decide) ?_
                    exact g_sub _ [0, 1, 2, 3, 4, 5, 7] rfl (hJ149 a27 u28)
              · skip
                refine g_sub _ [2, 3, 4, 5, 6, 7, 8, 9, 1, 0] rfl ?_
                refine g_lq2 (fun (x31 : Int32) (x32 : Int32) => [(0, .ref (ad 0)), (2, .int p2), (3, .int r6), (4, .int x12), (5, .int x13), (6, .int x14), (7, .int x23), (8, .int x24), (9, .int x31), (10, .int x32)]) (fun self34 hself34 x31 x32 u33 => ?_) F 0 0 u25
                rw [bX7_ask_66]
                refine g_iload C 66 9 dX7_ask_66 rfl ?_
                refine g_iconst C 68 4 dX7_ask_68 rfl ?_
                refine g_icmp_ge C 69 135 dX7_ask_69 (by decide) ?_ ?_
                · skip
                  exact g_sub _ [0, 1, 2, 3, 4, 5, 6, 7, 8] rfl (hJ135 x31 u33)
                · skip
                  refine g_iload_n C 72 2 dX7_ask_72 rfl ?_
                  refine g_iload C 73 7 dX7_ask_73 rfl ?_
                  refine g_ishr C 75 dX7_ask_75 ?_
                  refine g_iconst C 76 1 dX7_ask_76 rfl ?_
                  refine g_iand C 77 dX7_ask_77 ?_
                  refine g_iconst C 78 1 dX7_ask_78 rfl ?_
                  refine g_icmp_ne C 79 135 dX7_ask_79 (by decide) ?_ ?_
                  · skip
                    exact g_sub _ [0, 1, 2, 3, 4, 5, 6, 7, 8] rfl (hJ135 x31 u33)
                  · skip
                    refine g_iload C 82 8 dX7_ask_82 rfl ?_
                    refine g_iload_n C 84 2 dX7_ask_84 rfl ?_
                    refine g_iload C 85 9 dX7_ask_85 rfl ?_
                    refine g_ishr C 87 dX7_ask_87 ?_
                    refine g_iconst C 88 1 dX7_ask_88 rfl ?_
                    refine g_iand C 89 dX7_ask_89 ?_
                    refine g_iconst C 90 1 dX7_ask_90 rfl ?_
                    refine g_jn1 126 (fun (a35 : Int32) => [(0, .ref (ad 0)), (2, .int p2), (3, .int r6), (4, .int x12), (5, .int x13), (6, .int x14), (7, .int x23), (8, .int x24), (10, .int x32)]) (fun (a35 : Int32) => [.int a35, .int x31]) (fun a35 u36 => ?_) (fun J126 hJ126 => ?_)
                    · skip
                      refine g_iadd C 126 dX7_ask_126 ?_
                      refine g_istoreV C 127 (fun v37 => [(9, .int v37), (0, .ref (ad 0)), (2, .int p2), (3, .int r6), (4, .int x12), (5, .int x13), (6, .int x14), (7, .int x23), (8, .int x24), (10, .int x32)]) dX7_ask_127 (by decide) (fun _ => rfl) (fun v37 => ?_)
                      refine g_iinc C 129 9 [(10, .int (x32 + 1)), (9, .int v37), (0, .ref (ad 0)), (2, .int p2), (3, .int r6), (4, .int x12), (5, .int x13), (6, .int x14), (7, .int x23), (8, .int x24)] dX7_ask_129 rfl rfl (by decide) rfl ?_
                      refine g_goto C 132 66 dX7_ask_132 (by decide) ?_
                      exact g_sub _ [2, 3, 4, 5, 6, 7, 8, 9, 1, 0] rfl (hself34 v37 (x32 + 1) u36)
                    · skip
                      refine g_jn0 125 ([(0, .ref (ad 0)), (2, .int p2), (3, .int r6), (4, .int x12), (5, .int x13), (6, .int x14), (7, .int x23), (8, .int x24), (10, .int x32)]) ([.int x31]) (fun u38 => ?_) (fun J125 hJ125 => ?_)
                      · skip
                        refine g_iconst C 125 0 dX7_ask_125 rfl ?_
                        exact g_sub _ [0, 1, 2, 3, 4, 5, 6, 7, 8] rfl (hJ126 0 u38)
                      · skip
                        refine g_icmp_ne C 91 125 dX7_ask_91 (by decide) ?_ ?_
                        · skip
                          exact g_sub _ [0, 1, 2, 3, 4, 5, 6, 7, 9] rfl (hJ125 u33)
                        · skip
                          refine g_aload_n C 94 0 dX7_ask_94 rfl ?_
                          refine gfM_X7_verdictBy C 95 iX7 (List.mem_cons_of_mem _ (List.mem_append_right _ wgL_5_22.1)) dX7_ask_95 ?_
                          refine g_iconst C 98 4 dX7_ask_98 rfl ?_
                          refine g_iload C 99 7 dX7_ask_99 rfl ?_
                          refine g_imul C 101 dX7_ask_101 ?_
                          refine g_iload C 102 5 dX7_ask_102 rfl ?_
                          refine g_iadd C 104 dX7_ask_104 ?_
                          refine g_iald C 105 (1 + 8) 0 (wM_arr 8 (by decide)) rfl dX7_ask_105 ?_
                          refine g_aload_n C 106 0 dX7_ask_106 rfl ?_
                          refine gfM_X7_verdictBy C 107 iX7 (List.mem_cons_of_mem _ (List.mem_append_right _ wgL_5_22.1)) dX7_ask_107 ?_
                          refine g_iconst C 110 4 dX7_ask_110 rfl ?_
                          refine g_iload C 111 9 dX7_ask_111 rfl ?_
                          refine g_imul C 113 dX7_ask_113 ?_
                          refine g_iload C 114 5 dX7_ask_114 rfl ?_
                          refine g_iadd C 116 dX7_ask_116 ?_
                          refine g_iald C 117 (1 + 8) 0 (wM_arr 8 (by decide)) rfl dX7_ask_117 ?_
                          refine g_icmp_ne C 118 125 dX7_ask_118 (by decide) ?_ ?_
                          · skip
                            exact g_sub _ [0, 1, 2, 3, 4, 5, 6, 7, 9] rfl (hJ125 u33)
                          · skip
                            refine g_iconst C 121 1 dX7_ask_121 rfl ?_
                            refine g_goto C 122 126 dX7_ask_122 (by decide) ?_
                            exact g_sub _ [0, 1, 2, 3, 4, 5, 6, 7, 9] rfl (hJ126 1 u33)
    · skip
      refine g_iconst C 18 (-1) dX7_ask_18 rfl ?_
      exact g_iret C 19 dX7_ask_19
def jX7_drift_165 (F : Nat) (p3 : Int32) (a6 : Int32) (u7 : St) : Option (Int32 × St) :=
  if p3 = 0 then some (a6, u7) else bd (pX7_lengthsOn F 272 u7) (fun (r9 : Int32) (u8 : St) => some (r9, u8))
def bX7_drift_58 (F : Nat) (p2 : Int32) (J165 : Int32 → St → Option (Int32 × St)) (self14 : Int32 → Int32 → Int32 → St → Option (Int32 × St)) (x10 : Int32) (x11 : Int32) (x12 : Int32) (u13 : St) : Option (Int32 × St) :=
  if p2 ≤ x12 then (J165 x11 u13) else vl ((x10 * 1103515245) + 12345) (fun v15 => vl ((v15 >>> (16 &&& 31)) &&& 32767) (fun v16 => gd (nz (u13.1 0)) (vl (irm v16 (u13.1 0)) (fun v17 => gd (nz 8) (gd (nz 2) (gd (nz 16) (gd (nz 20) (gd (inb ((280 + (2 * v17)) + (irm (v16 / 8) 2)) 408) (vl (sta u13 0 ((280 + (2 * v17)) + (irm (v16 / 8) 2)) (irm (v16 / 16) 20)) (fun (u18 : St) => gd (nz 512) (gd (nz (u18.1 1)) (bd (pX7_hearsOn F 272 v17 (irm (v16 / 512) (u18.1 1)) u18) (fun (r20 : Int32) (u19 : St) => jn (fun (a21 : Int32) (u22 : St) => vl (x11 + a21) (fun v23 => (self14 v15 v23 (x12 + 1) u22))) (fun (J156 : Int32 → St → Option (Int32 × St)) => if r20 = 1 then (J156 1 u19) else (J156 0 u19)))))))))))))))
def pX7_drift (F : Nat) (p1 : Int32) (p2 : Int32) (p3 : Int32) (u : St) : Option (Int32 × St) :=
  bd (pX7_in F (Int32.toInt64 p2) 1 60 u) (fun (r2 : Int32) (u1 : St) => if r2 = 0 then some ((-1), u1) else bd (pX7_in F (Int32.toInt64 p3) 0 1 u1) (fun (r4 : Int32) (u3 : St) => if r4 = 0 then some ((-1), u3) else if (u3.1 0) = 0 then some ((-2), u3) else if (u3.1 1) = 0 then some ((-2), u3) else bd (pX7_copies F 0 272 u3) (fun (_ : Unit) (u5 : St) => jn (jX7_drift_165 F p3) (fun (J165 : Int32 → St → Option (Int32 × St)) => (lq3 (bX7_drift_58 F p2 J165) F p1 0 0 u5)))))
set_option maxRecDepth 100000 in
set_option maxHeartbeats 4000000 in
theorem tX7_drift {l : Launch} {D : va_G} {cI cZ : ClassId} {ad : Nat → Nat} (F : Nat) (p1 : Int32) (p2 : Int32) (p3 : Int32) (u : St) : CtI l D [(cI, .int), (cZ, .boolean)] (wM ad cI cZ) E0 yX7_drift wsX7_drift ({ frames := 3, cells := 0, slots := 0, locals := 75 } : Room) [.ref (ad 0), .int p1, .int p2, .int p3] u (pX7_drift F p1 p2 p3 u) := by
  refine ctI_of (own := RX7) (cc := cX7_drift) (n := 9) (ret := (some .int)) (by decide) rfl rfl (Nat.le_of_ble_eq_true rfl) (lv := [(0, .ref (ad 0)), (1, .int p1), (2, .int p2), (3, .int p3)]) rfl (fun C => ?_)
  have iX7 : ∀ w ∈ wsX70, w ∈ wsX7_drift := fun w h => List.mem_cons_of_mem _ (List.mem_append_right _ (inlX7 w h))
  rw [pX7_drift]
  refine g_iload_n C 0 2 dX7_drift_0 rfl ?_
  refine g_i2l C 1 dX7_drift_1 ?_
  refine g_lconst C 2 1 dX7_drift_2 rfl ?_
  refine g_ldc2 C 3 60 (by decide +kernel) dX7_drift_3 ?_
  refine g_callSi (st := []) (As := [.long (Int32.toInt64 p2), .long 1, .long 60]) C E0_ok E0_vm 6 3 (tX7_in F (Int32.toInt64 p2) 1 60 u) rfl gX7_drift_X7_in rfl rfl rfl (by decide +kernel) ⟨Nat.le_of_ble_eq_true rfl, Nat.le_of_ble_eq_true rfl⟩ rfl (Nat.le_of_ble_eq_true rfl) dX7_drift_6 (fun r2 u1 => ?_)
  refine g_if_eq C 9 22 dX7_drift_9 (by decide) ?_ ?_
  · skip
    refine g_iconst C 22 (-1) dX7_drift_22 rfl ?_
    exact g_iret C 23 dX7_drift_23
  · skip
    refine g_iload_n C 12 3 dX7_drift_12 rfl ?_
    refine g_i2l C 13 dX7_drift_13 ?_
    refine g_lconst C 14 0 dX7_drift_14 rfl ?_
    refine g_lconst C 15 1 dX7_drift_15 rfl ?_
    refine g_callSi (st := []) (As := [.long (Int32.toInt64 p3), .long 0, .long 1]) C E0_ok E0_vm 16 3 (tX7_in F (Int32.toInt64 p3) 0 1 u1) rfl gX7_drift_X7_in rfl rfl rfl (by decide +kernel) ⟨Nat.le_of_ble_eq_true rfl, Nat.le_of_ble_eq_true rfl⟩ rfl (Nat.le_of_ble_eq_true rfl) dX7_drift_16 (fun r4 u3 => ?_)
    refine g_if_ne C 19 24 dX7_drift_19 (by decide) ?_ ?_
    · skip
      refine g_aload_n C 24 0 dX7_drift_24 rfl ?_
      refine gfM_X7_caseMany C 25 iX7 (List.mem_cons_of_mem _ (List.mem_append_right _ wgL_15_16.1)) dX7_drift_25 ?_
      refine g_if_eq C 28 38 dX7_drift_28 (by decide) ?_ ?_
      · skip
        refine g_bipush C 38 (-2) dX7_drift_38 rfl ?_
        exact g_iret C 40 dX7_drift_40
      · skip
        refine g_aload_n C 31 0 dX7_drift_31 rfl ?_
        refine gfM_X7_judgeMany C 32 iX7 (List.mem_cons_of_mem _ (List.mem_append_right _ wgL_15_17.1)) dX7_drift_32 ?_
        refine g_if_ne C 35 41 dX7_drift_35 (by decide) ?_ ?_
        · skip
          refine g_aload_n C 41 0 dX7_drift_41 rfl ?_
          refine g_iconst C 42 0 dX7_drift_42 rfl ?_
          refine g_sipush C 43 272 dX7_drift_43 rfl ?_
          refine g_callVv (st := []) (As := [.int 0, .int 272]) C E0_ok E0_vm 46 0 2 (tX7_copies F 0 272 u3) rfl gX7_drift_X7_copies rfl rfl rfl (by decide +kernel) ⟨Nat.le_of_ble_eq_true rfl, Nat.le_of_ble_eq_true rfl⟩ rfl rfl rfl (Nat.le_of_ble_eq_true rfl) dX7_drift_46 (fun u5 => ?_)
          refine g_iload_n C 49 1 dX7_drift_49 rfl ?_
          refine g_istore C 50 [(4, .int p1), (0, .ref (ad 0)), (1, .int p1), (2, .int p2), (3, .int p3)] dX7_drift_50 (by decide) rfl ?_
          refine g_iconst C 52 0 dX7_drift_52 rfl ?_
          refine g_istore C 53 [(5, .int 0), (4, .int p1), (0, .ref (ad 0)), (1, .int p1), (2, .int p2), (3, .int p3)] dX7_drift_53 (by decide) rfl ?_
          refine g_iconst C 55 0 dX7_drift_55 rfl ?_
          refine g_istore C 56 [(6, .int 0), (5, .int 0), (4, .int p1), (0, .ref (ad 0)), (1, .int p1), (2, .int p2), (3, .int p3)] dX7_drift_56 (by decide) rfl ?_
          refine g_jn1 165 (fun (a6 : Int32) => [(0, .ref (ad 0)), (3, .int p3), (5, .int a6)]) (fun (a6 : Int32) => []) (fun a6 u7 => ?_) (fun J165 hJ165 => ?_)
          · skip
            rw [jX7_drift_165]
            refine g_iload_n C 165 1 dX7_drift_165 rfl ?_
            refine g_if_ne C 166 174 dX7_drift_166 (by decide) ?_ ?_
            · skip
              refine g_aload_n C 174 0 dX7_drift_174 rfl ?_
              refine g_sipush C 175 272 dX7_drift_175 rfl ?_
              refine g_callVi (st := []) (As := [.int 272]) C E0_ok E0_vm 178 0 1 (tX7_lengthsOn F 272 u7) rfl gX7_drift_X7_lengthsOn rfl rfl rfl (by decide +kernel) ⟨Nat.le_of_ble_eq_true rfl, Nat.le_of_ble_eq_true rfl⟩ rfl rfl rfl (Nat.le_of_ble_eq_true rfl) dX7_drift_178 (fun r9 u8 => ?_)
              exact g_iret C 181 dX7_drift_181
            · skip
              refine g_iload C 169 2 dX7_drift_169 rfl ?_
              refine g_goto C 171 181 dX7_drift_171 (by decide) ?_
              exact g_iret C 181 dX7_drift_181
          · skip
            refine g_sub _ [3, 5, 6, 2, 1, 0] rfl ?_
            refine g_lq3 (fun (x10 : Int32) (x11 : Int32) (x12 : Int32) => [(0, .ref (ad 0)), (2, .int p2), (3, .int p3), (4, .int x10), (5, .int x11), (6, .int x12)]) (fun self14 hself14 x10 x11 x12 u13 => ?_) F p1 0 0 u5
            rw [bX7_drift_58]
            refine g_iload C 58 5 dX7_drift_58 rfl ?_
            refine g_iload_n C 60 1 dX7_drift_60 rfl ?_
            refine g_icmp_ge C 61 165 dX7_drift_61 (by decide) ?_ ?_
            · skip
              exact g_sub _ [0, 2, 4] rfl (hJ165 x11 u13)
            · skip
              refine g_iload C 64 3 dX7_drift_64 rfl ?_
              refine g_ldcw C 66 1103515245 (by decide +kernel) dX7_drift_66 ?_
              refine g_imul C 69 dX7_drift_69 ?_
              refine g_sipush C 70 12345 dX7_drift_70 rfl ?_
              refine g_iadd C 73 dX7_drift_73 ?_
              refine g_istoreV C 74 (fun v15 => [(4, .int v15), (0, .ref (ad 0)), (2, .int p2), (3, .int p3), (5, .int x11), (6, .int x12)]) dX7_drift_74 (by decide) (fun _ => rfl) (fun v15 => ?_)
              refine g_iload C 76 0 dX7_drift_76 rfl ?_
              refine g_bipush C 78 16 dX7_drift_78 rfl ?_
              refine g_ishr C 80 dX7_drift_80 ?_
              refine g_sipush C 81 32767 dX7_drift_81 rfl ?_
              refine g_iand C 84 dX7_drift_84 ?_
              refine g_istoreV C 85 (fun v16 => [(7, .int v16), (4, .int v15), (0, .ref (ad 0)), (2, .int p2), (3, .int p3), (5, .int x11), (6, .int x12)]) dX7_drift_85 (by decide) (fun _ => rfl) (fun v16 => ?_)
              refine g_iload C 87 0 dX7_drift_87 rfl ?_
              refine g_aload_n C 89 2 dX7_drift_89 rfl ?_
              refine gfM_X7_caseMany C 90 iX7 (List.mem_cons_of_mem _ (List.mem_append_right _ wgL_15_16.1)) dX7_drift_90 ?_
              refine g_irem C 93 dX7_drift_93 ?_
              refine g_istoreV C 94 (fun v17 => [(8, .int v17), (7, .int v16), (4, .int v15), (0, .ref (ad 0)), (2, .int p2), (3, .int p3), (5, .int x11), (6, .int x12)]) dX7_drift_94 (by decide) (fun _ => rfl) (fun v17 => ?_)
              refine g_aload_n C 96 3 dX7_drift_96 rfl ?_
              refine gfM_X7_state C 97 iX7 (List.mem_cons_of_mem _ (List.mem_append_right _ wgL_5_14.1)) dX7_drift_97 ?_
              refine g_sipush C 100 280 dX7_drift_100 rfl ?_
              refine g_iconst C 103 2 dX7_drift_103 rfl ?_
              refine g_iload C 104 0 dX7_drift_104 rfl ?_
              refine g_imul C 106 dX7_drift_106 ?_
              refine g_iadd C 107 dX7_drift_107 ?_
              refine g_iload C 108 1 dX7_drift_108 rfl ?_
              refine g_bipush C 110 8 dX7_drift_110 rfl ?_
              refine g_idiv C 112 dX7_drift_112 ?_
              refine g_iconst C 113 2 dX7_drift_113 rfl ?_
              refine g_irem C 114 dX7_drift_114 ?_
              refine g_iadd C 115 dX7_drift_115 ?_
              refine g_iload C 116 1 dX7_drift_116 rfl ?_
              refine g_bipush C 118 16 dX7_drift_118 rfl ?_
              refine g_idiv C 120 dX7_drift_120 ?_
              refine g_bipush C 121 20 dX7_drift_121 rfl ?_
              refine g_irem C 123 dX7_drift_123 ?_
              refine g_iast C 124 (1 + 0) 0 0 (wM_arr 0 (by decide)) (wM_aset 0 (by decide)) rfl dX7_drift_124 (fun u18 => ?_)
              refine g_iload C 125 6 dX7_drift_125 rfl ?_
              refine g_aload_n C 127 3 dX7_drift_127 rfl ?_
              refine g_sipush C 128 272 dX7_drift_128 rfl ?_
              refine g_iload C 131 0 dX7_drift_131 rfl ?_
              refine g_iload C 133 1 dX7_drift_133 rfl ?_
              refine g_sipush C 135 512 dX7_drift_135 rfl ?_
              refine g_idiv C 138 dX7_drift_138 ?_
              refine g_aload_n C 139 3 dX7_drift_139 rfl ?_
              refine gfM_X7_judgeMany C 140 iX7 (List.mem_cons_of_mem _ (List.mem_append_right _ wgL_15_17.1)) dX7_drift_140 ?_
              refine g_irem C 143 dX7_drift_143 ?_
              refine g_callVi (st := [.int x11]) (As := [.int 272, .int v17, .int (irm (v16 / 512) (u18.1 1))]) C E0_ok E0_vm 144 0 3 (tX7_hearsOn F 272 v17 (irm (v16 / 512) (u18.1 1)) u18) rfl gX7_drift_X7_hearsOn rfl rfl rfl (by decide +kernel) ⟨Nat.le_of_ble_eq_true rfl, Nat.le_of_ble_eq_true rfl⟩ rfl rfl rfl (Nat.le_of_ble_eq_true rfl) dX7_drift_144 (fun r20 u19 => ?_)
              refine g_iconst C 147 1 dX7_drift_147 rfl ?_
              refine g_jn1 156 (fun (a21 : Int32) => [(0, .ref (ad 0)), (2, .int p2), (3, .int p3), (4, .int v15), (6, .int x12)]) (fun (a21 : Int32) => [.int a21, .int x11]) (fun a21 u22 => ?_) (fun J156 hJ156 => ?_)
              · skip
                refine g_iadd C 156 dX7_drift_156 ?_
                refine g_istoreV C 157 (fun v23 => [(5, .int v23), (0, .ref (ad 0)), (2, .int p2), (3, .int p3), (4, .int v15), (6, .int x12)]) dX7_drift_157 (by decide) (fun _ => rfl) (fun v23 => ?_)
                refine g_iinc C 159 5 [(6, .int (x12 + 1)), (5, .int v23), (0, .ref (ad 0)), (2, .int p2), (3, .int p3), (4, .int v15)] dX7_drift_159 rfl rfl (by decide) rfl ?_
                refine g_goto C 162 58 dX7_drift_162 (by decide) ?_
                exact g_sub _ [2, 3, 4, 5, 1, 0] rfl (hself14 v15 v23 (x12 + 1) u22)
              · skip
                refine g_icmp_ne C 148 155 dX7_drift_148 (by decide) ?_ ?_
                · skip
                  refine g_iconst C 155 0 dX7_drift_155 rfl ?_
                  exact g_sub _ [3, 4, 5, 2, 7] rfl (hJ156 0 u19)
                · skip
                  refine g_iconst C 151 1 dX7_drift_151 rfl ?_
                  refine g_goto C 152 156 dX7_drift_152 (by decide) ?_
                  exact g_sub _ [3, 4, 5, 2, 7] rfl (hJ156 1 u19)
        · skip
          refine g_bipush C 38 (-2) dX7_drift_38 rfl ?_
          exact g_iret C 40 dX7_drift_40
    · skip
      refine g_iconst C 22 (-1) dX7_drift_22 rfl ?_
      exact g_iret C 23 dX7_drift_23
def pX7_keep (F : Nat) (p1 : Int32) (u : St) : Option (Int32 × St) :=
  bd (pX7_in F (Int32.toInt64 p1) 0 1 u) (fun (r2 : Int32) (u1 : St) => if r2 = 0 then some ((-1), u1) else bd (pX7_copies F 0 (68 * (p1 + 1)) u1) (fun (_ : Unit) (u3 : St) => gd (inb p1 2) (jn (fun (a4 : Int32) (u5 : St) => gd (inb p1 2) (vl (stz u5 12 p1 1) (fun (u6 : St) => some (a4, u6)))) (fun (J37 : Int32 → St → Option (Int32 × St)) => if (u3.2 12 (Int32.toNatClampNeg p1)) = 0 then (J37 0 u3) else (J37 1 u3)))))
set_option maxRecDepth 100000 in
set_option maxHeartbeats 4000000 in
theorem tX7_keep {l : Launch} {D : va_G} {cI cZ : ClassId} {ad : Nat → Nat} (F : Nat) (p1 : Int32) (u : St) : CtI l D [(cI, .int), (cZ, .boolean)] (wM ad cI cZ) E0 yX7_keep wsX7_keep ({ frames := 1, cells := 0, slots := 0, locals := 25 } : Room) [.ref (ad 0), .int p1] u (pX7_keep F p1 u) := by
  refine ctI_of (own := RX7) (cc := cX7_keep) (n := 3) (ret := (some .int)) (by decide) rfl rfl (Nat.le_of_ble_eq_true rfl) (lv := [(0, .ref (ad 0)), (1, .int p1)]) rfl (fun C => ?_)
  have iX7 : ∀ w ∈ wsX70, w ∈ wsX7_keep := fun w h => List.mem_cons_of_mem _ (List.mem_append_right _ (inlX7 w h))
  rw [pX7_keep]
  refine g_iload_n C 0 1 dX7_keep_0 rfl ?_
  refine g_i2l C 1 dX7_keep_1 ?_
  refine g_lconst C 2 0 dX7_keep_2 rfl ?_
  refine g_lconst C 3 1 dX7_keep_3 rfl ?_
  refine g_callSi (st := []) (As := [.long (Int32.toInt64 p1), .long 0, .long 1]) C E0_ok E0_vm 4 3 (tX7_in F (Int32.toInt64 p1) 0 1 u) rfl gX7_keep_X7_in rfl rfl rfl (by decide +kernel) ⟨Nat.le_of_ble_eq_true rfl, Nat.le_of_ble_eq_true rfl⟩ rfl (Nat.le_of_ble_eq_true rfl) dX7_keep_4 (fun r2 u1 => ?_)
  refine g_if_ne C 7 12 dX7_keep_7 (by decide) ?_ ?_
  · skip
    refine g_aload_n C 12 0 dX7_keep_12 rfl ?_
    refine g_iconst C 13 0 dX7_keep_13 rfl ?_
    refine g_bipush C 14 68 dX7_keep_14 rfl ?_
    refine g_iload_n C 16 1 dX7_keep_16 rfl ?_
    refine g_iconst C 17 1 dX7_keep_17 rfl ?_
    refine g_iadd C 18 dX7_keep_18 ?_
    refine g_imul C 19 dX7_keep_19 ?_
    refine g_callVv (st := []) (As := [.int 0, .int (68 * (p1 + 1))]) C E0_ok E0_vm 20 0 2 (tX7_copies F 0 (68 * (p1 + 1)) u1) rfl gX7_keep_X7_copies rfl rfl rfl (by decide +kernel) ⟨Nat.le_of_ble_eq_true rfl, Nat.le_of_ble_eq_true rfl⟩ rfl rfl rfl (Nat.le_of_ble_eq_true rfl) dX7_keep_20 (fun u3 => ?_)
    refine g_aload_n C 23 0 dX7_keep_23 rfl ?_
    refine gfM_X7_isKept C 24 iX7 (List.mem_cons_of_mem _ (List.mem_append_right _ wgL_5_23.1)) dX7_keep_24 ?_
    refine g_iload_n C 27 1 dX7_keep_27 rfl ?_
    refine g_zald C 28 (1 + 12) 1 (wM_arrz 12 (by decide) (by decide)) rfl dX7_keep_28 ?_
    refine g_jn1 37 (fun (a4 : Int32) => [(0, .ref (ad 0)), (1, .int p1)]) (fun (a4 : Int32) => [.int a4]) (fun a4 u5 => ?_) (fun J37 hJ37 => ?_)
    · skip
      refine g_istore_n C 37 [(2, .int a4), (0, .ref (ad 0)), (1, .int p1)] dX7_keep_37 (by decide) rfl ?_
      refine g_aload_n C 38 1 dX7_keep_38 rfl ?_
      refine gfM_X7_isKept C 39 iX7 (List.mem_cons_of_mem _ (List.mem_append_right _ wgL_5_23.1)) dX7_keep_39 ?_
      refine g_iload_n C 42 2 dX7_keep_42 rfl ?_
      refine g_iconst C 43 1 dX7_keep_43 rfl ?_
      refine g_zast C 44 (1 + 12) 1 12 (wM_arrz 12 (by decide) (by decide)) (wM_asetz 12 (by decide) (by decide)) rfl dX7_keep_44 (fun u6 => ?_)
      refine g_iload_n C 45 0 dX7_keep_45 rfl ?_
      exact g_iret C 46 dX7_keep_46
    · skip
      refine g_if_eq C 29 36 dX7_keep_29 (by decide) ?_ ?_
      · skip
        refine g_iconst C 36 0 dX7_keep_36 rfl ?_
        exact g_sub _ [0, 1] rfl (hJ37 0 u3)
      · skip
        refine g_iconst C 32 1 dX7_keep_32 rfl ?_
        refine g_goto C 33 37 dX7_keep_33 (by decide) ?_
        exact g_sub _ [0, 1] rfl (hJ37 1 u3)
  · skip
    refine g_iconst C 10 (-1) dX7_keep_10 rfl ?_
    exact g_iret C 11 dX7_keep_11
end
section
def pX7_back (F : Nat) (p1 : Int32) (u : St) : Option (Int32 × St) :=
  bd (pX7_in F (Int32.toInt64 p1) 0 1 u) (fun (r2 : Int32) (u1 : St) => if r2 = 0 then some ((-1), u1) else gd (inb p1 2) (if (u1.2 12 (Int32.toNatClampNeg p1)) = 0 then some ((-2), u1) else bd (pX7_copies F (68 * (p1 + 1)) 0 u1) (fun (_ : Unit) (u3 : St) => bd (pX7_lengthsOn F 0 u3) (fun (r5 : Int32) (u4 : St) => some (r5, u4)))))
set_option maxRecDepth 100000 in
set_option maxHeartbeats 4000000 in
theorem tX7_back {l : Launch} {D : va_G} {cI cZ : ClassId} {ad : Nat → Nat} (F : Nat) (p1 : Int32) (u : St) : CtI l D [(cI, .int), (cZ, .boolean)] (wM ad cI cZ) E0 yX7_back wsX7_back ({ frames := 1, cells := 0, slots := 0, locals := 25 } : Room) [.ref (ad 0), .int p1] u (pX7_back F p1 u) := by
  refine ctI_of (own := RX7) (cc := cX7_back) (n := 2) (ret := (some .int)) (by decide) rfl rfl (Nat.le_of_ble_eq_true rfl) (lv := [(0, .ref (ad 0)), (1, .int p1)]) rfl (fun C => ?_)
  have iX7 : ∀ w ∈ wsX70, w ∈ wsX7_back := fun w h => List.mem_cons_of_mem _ (List.mem_append_right _ (inlX7 w h))
  rw [pX7_back]
  refine g_iload_n C 0 1 dX7_back_0 rfl ?_
  refine g_i2l C 1 dX7_back_1 ?_
  refine g_lconst C 2 0 dX7_back_2 rfl ?_
  refine g_lconst C 3 1 dX7_back_3 rfl ?_
  refine g_callSi (st := []) (As := [.long (Int32.toInt64 p1), .long 0, .long 1]) C E0_ok E0_vm 4 3 (tX7_in F (Int32.toInt64 p1) 0 1 u) rfl gX7_back_X7_in rfl rfl rfl (by decide +kernel) ⟨Nat.le_of_ble_eq_true rfl, Nat.le_of_ble_eq_true rfl⟩ rfl (Nat.le_of_ble_eq_true rfl) dX7_back_4 (fun r2 u1 => ?_)
  refine g_if_ne C 7 12 dX7_back_7 (by decide) ?_ ?_
  · skip
    refine g_aload_n C 12 0 dX7_back_12 rfl ?_
    refine gfM_X7_isKept C 13 iX7 (List.mem_cons_of_mem _ (List.mem_append_right _ wgL_5_23.1)) dX7_back_13 ?_
    refine g_iload_n C 16 1 dX7_back_16 rfl ?_
    refine g_zald C 17 (1 + 12) 1 (wM_arrz 12 (by decide) (by decide)) rfl dX7_back_17 ?_
    refine g_if_ne C 18 24 dX7_back_18 (by decide) ?_ ?_
    · skip
      refine g_aload_n C 24 0 dX7_back_24 rfl ?_
      refine g_bipush C 25 68 dX7_back_25 rfl ?_
      refine g_iload_n C 27 1 dX7_back_27 rfl ?_
      refine g_iconst C 28 1 dX7_back_28 rfl ?_
      refine g_iadd C 29 dX7_back_29 ?_
      refine g_imul C 30 dX7_back_30 ?_
      refine g_iconst C 31 0 dX7_back_31 rfl ?_
      refine g_callVv (st := []) (As := [.int (68 * (p1 + 1)), .int 0]) C E0_ok E0_vm 32 0 2 (tX7_copies F (68 * (p1 + 1)) 0 u1) rfl gX7_back_X7_copies rfl rfl rfl (by decide +kernel) ⟨Nat.le_of_ble_eq_true rfl, Nat.le_of_ble_eq_true rfl⟩ rfl rfl rfl (Nat.le_of_ble_eq_true rfl) dX7_back_32 (fun u3 => ?_)
      refine g_aload_n C 35 0 dX7_back_35 rfl ?_
      refine g_iconst C 36 0 dX7_back_36 rfl ?_
      refine g_callVi (st := []) (As := [.int 0]) C E0_ok E0_vm 37 0 1 (tX7_lengthsOn F 0 u3) rfl gX7_back_X7_lengthsOn rfl rfl rfl (by decide +kernel) ⟨Nat.le_of_ble_eq_true rfl, Nat.le_of_ble_eq_true rfl⟩ rfl rfl rfl (Nat.le_of_ble_eq_true rfl) dX7_back_37 (fun r5 u4 => ?_)
      exact g_iret C 40 dX7_back_40
    · skip
      refine g_bipush C 21 (-2) dX7_back_21 rfl ?_
      exact g_iret C 23 dX7_back_23
  · skip
    refine g_iconst C 10 (-1) dX7_back_10 rfl ?_
    exact g_iret C 11 dX7_back_11
def bX7_sheet_56 (F : Nat) (p1 : Int32) (self9 : Int32 → St → Option (Int32 × St)) (x7 : Int32) (u8 : St) : Option (Int32 × St) :=
  if 40 ≤ x7 then some (1, u8) else gd (inb ((40 * p1) + x7) 160) (vl (sta u8 11 ((40 * p1) + x7) 0) (fun (u10 : St) => (self9 (x7 + 1) u10)))
def pX7_sheet (F : Nat) (p1 : Int32) (p2 : Int32) (p3 : Int32) (u : St) : Option (Int32 × St) :=
  bd (pX7_in F (Int32.toInt64 p1) 0 3 u) (fun (r2 : Int32) (u1 : St) => if r2 = 0 then some ((-1), u1) else bd (pX7_in F (Int32.toInt64 p2) 0 2 u1) (fun (r4 : Int32) (u3 : St) => if r4 = 0 then some ((-1), u3) else if p3 ≤ 40 then if 0 ≤ p3 then gd (inb p1 4) (vl (sta u3 9 p1 p2) (fun (u5 : St) => gd (inb p1 4) (vl (sta u5 10 p1 p3) (fun (u6 : St) => (lq1 (bX7_sheet_56 F p1) F 0 u6))))) else some ((-14), u3) else some ((-1), u3)))
set_option maxRecDepth 100000 in
set_option maxHeartbeats 4000000 in
theorem tX7_sheet {l : Launch} {D : va_G} {cI cZ : ClassId} {ad : Nat → Nat} (F : Nat) (p1 : Int32) (p2 : Int32) (p3 : Int32) (u : St) : CtI l D [(cI, .int), (cZ, .boolean)] (wM ad cI cZ) E0 yX7_sheet wsX7_sheet ({ frames := 1, cells := 0, slots := 0, locals := 25 } : Room) [.ref (ad 0), .int p1, .int p2, .int p3] u (pX7_sheet F p1 p2 p3 u) := by
  refine ctI_of (own := RX7) (cc := cX7_sheet) (n := 5) (ret := (some .int)) (by decide) rfl rfl (Nat.le_of_ble_eq_true rfl) (lv := [(0, .ref (ad 0)), (1, .int p1), (2, .int p2), (3, .int p3)]) rfl (fun C => ?_)
  have iX7 : ∀ w ∈ wsX70, w ∈ wsX7_sheet := fun w h => List.mem_cons_of_mem _ (List.mem_append_right _ (inlX7 w h))
  rw [pX7_sheet]
  refine g_iload_n C 0 1 dX7_sheet_0 rfl ?_
  refine g_i2l C 1 dX7_sheet_1 ?_
  refine g_lconst C 2 0 dX7_sheet_2 rfl ?_
  refine g_ldc2 C 3 3 (by decide +kernel) dX7_sheet_3 ?_
  refine g_callSi (st := []) (As := [.long (Int32.toInt64 p1), .long 0, .long 3]) C E0_ok E0_vm 6 3 (tX7_in F (Int32.toInt64 p1) 0 3 u) rfl gX7_sheet_X7_in rfl rfl rfl (by decide +kernel) ⟨Nat.le_of_ble_eq_true rfl, Nat.le_of_ble_eq_true rfl⟩ rfl (Nat.le_of_ble_eq_true rfl) dX7_sheet_6 (fun r2 u1 => ?_)
  refine g_if_eq C 9 30 dX7_sheet_9 (by decide) ?_ ?_
  · skip
    refine g_iconst C 30 (-1) dX7_sheet_30 rfl ?_
    exact g_iret C 31 dX7_sheet_31
  · skip
    refine g_iload_n C 12 2 dX7_sheet_12 rfl ?_
    refine g_i2l C 13 dX7_sheet_13 ?_
    refine g_lconst C 14 0 dX7_sheet_14 rfl ?_
    refine g_ldc2 C 15 2 (by decide +kernel) dX7_sheet_15 ?_
    refine g_callSi (st := []) (As := [.long (Int32.toInt64 p2), .long 0, .long 2]) C E0_ok E0_vm 18 3 (tX7_in F (Int32.toInt64 p2) 0 2 u1) rfl gX7_sheet_X7_in rfl rfl rfl (by decide +kernel) ⟨Nat.le_of_ble_eq_true rfl, Nat.le_of_ble_eq_true rfl⟩ rfl (Nat.le_of_ble_eq_true rfl) dX7_sheet_18 (fun r4 u3 => ?_)
    refine g_if_eq C 21 30 dX7_sheet_21 (by decide) ?_ ?_
    · skip
      refine g_iconst C 30 (-1) dX7_sheet_30 rfl ?_
      exact g_iret C 31 dX7_sheet_31
    · skip
      refine g_iload_n C 24 3 dX7_sheet_24 rfl ?_
      refine g_bipush C 25 40 dX7_sheet_25 rfl ?_
      refine g_icmp_le C 27 32 dX7_sheet_27 (by decide) ?_ ?_
      · skip
        refine g_iload_n C 32 3 dX7_sheet_32 rfl ?_
        refine g_if_ge C 33 39 dX7_sheet_33 (by decide) ?_ ?_
        · skip
          refine g_aload_n C 39 0 dX7_sheet_39 rfl ?_
          refine gfM_X7_lanes C 40 iX7 (List.mem_cons_of_mem _ (List.mem_append_right _ wgL_6_0.1)) dX7_sheet_40 ?_
          refine g_iload_n C 43 1 dX7_sheet_43 rfl ?_
          refine g_iload_n C 44 2 dX7_sheet_44 rfl ?_
          refine g_iast C 45 (1 + 9) 0 9 (wM_arr 9 (by decide)) (wM_aset 9 (by decide)) rfl dX7_sheet_45 (fun u5 => ?_)
          refine g_aload_n C 46 0 dX7_sheet_46 rfl ?_
          refine gfM_X7_lengths C 47 iX7 (List.mem_cons_of_mem _ (List.mem_append_right _ wgL_6_1.1)) dX7_sheet_47 ?_
          refine g_iload_n C 50 1 dX7_sheet_50 rfl ?_
          refine g_iload_n C 51 3 dX7_sheet_51 rfl ?_
          refine g_iast C 52 (1 + 10) 0 10 (wM_arr 10 (by decide)) (wM_aset 10 (by decide)) rfl dX7_sheet_52 (fun u6 => ?_)
          refine g_iconst C 53 0 dX7_sheet_53 rfl ?_
          refine g_istore C 54 [(4, .int 0), (0, .ref (ad 0)), (1, .int p1), (2, .int p2), (3, .int p3)] dX7_sheet_54 (by decide) rfl ?_
          refine g_sub _ [1, 2, 0] rfl ?_
          refine g_lq1 (fun (x7 : Int32) => [(0, .ref (ad 0)), (1, .int p1), (4, .int x7)]) (fun self9 hself9 x7 u8 => ?_) F 0 u6
          rw [bX7_sheet_56]
          refine g_iload C 56 2 dX7_sheet_56 rfl ?_
          refine g_bipush C 58 40 dX7_sheet_58 rfl ?_
          refine g_icmp_ge C 60 82 dX7_sheet_60 (by decide) ?_ ?_
          · skip
            refine g_iconst C 82 1 dX7_sheet_82 rfl ?_
            exact g_iret C 83 dX7_sheet_83
          · skip
            refine g_aload_n C 63 0 dX7_sheet_63 rfl ?_
            refine gfM_X7_cells C 64 iX7 (List.mem_cons_of_mem _ (List.mem_append_right _ wgL_6_2.1)) dX7_sheet_64 ?_
            refine g_bipush C 67 40 dX7_sheet_67 rfl ?_
            refine g_iload_n C 69 1 dX7_sheet_69 rfl ?_
            refine g_imul C 70 dX7_sheet_70 ?_
            refine g_iload C 71 2 dX7_sheet_71 rfl ?_
            refine g_iadd C 73 dX7_sheet_73 ?_
            refine g_iconst C 74 0 dX7_sheet_74 rfl ?_
            refine g_iast C 75 (1 + 11) 0 11 (wM_arr 11 (by decide)) (wM_aset 11 (by decide)) rfl dX7_sheet_75 (fun u10 => ?_)
            refine g_iinc C 76 2 [(4, .int (x7 + 1)), (0, .ref (ad 0)), (1, .int p1)] dX7_sheet_76 rfl rfl (by decide) rfl ?_
            refine g_goto C 79 56 dX7_sheet_79 (by decide) ?_
            exact g_sub _ [1, 2, 0] rfl (hself9 (x7 + 1) u10)
        · skip
          refine g_bipush C 36 (-14) dX7_sheet_36 rfl ?_
          exact g_iret C 38 dX7_sheet_38
      · skip
        refine g_iconst C 30 (-1) dX7_sheet_30 rfl ?_
        exact g_iret C 31 dX7_sheet_31
def pX7_lay (F : Nat) (p1 : Int32) (p2 : Int32) (p3 : Int32) (u : St) : Option (Int32 × St) :=
  bd (pX7_in F (Int32.toInt64 p1) 0 3 u) (fun (r2 : Int32) (u1 : St) => if r2 = 0 then some ((-1), u1) else gd (inb p1 4) (if (u1.2 9 (Int32.toNatClampNeg p1)) = (-4) then some ((-11), u1) else gd (inb p1 4) (bd (pX7_in F (Int32.toInt64 p2) 0 (Int32.toInt64 ((u1.2 10 (Int32.toNatClampNeg p1)) - 1)) u1) (fun (r4 : Int32) (u3 : St) => if r4 = 0 then some ((-12), u3) else gd (inb p1 4) (jn (fun (a5 : Int32) (u6 : St) => gd (inb ((40 * p1) + p2) 160) (vl (sta u6 11 ((40 * p1) + p2) a5) (fun (u7 : St) => some (1, u7)))) (fun (J99 : Int32 → St → Option (Int32 × St)) => if (u3.2 9 (Int32.toNatClampNeg p1)) = 0 then (J99 ((p3 <<< (24 &&& 31)) >>> (24 &&& 31)) u3) else gd (inb p1 4) (if (u3.2 9 (Int32.toNatClampNeg p1)) = 1 then (J99 ((p3 <<< (16 &&& 31)) >>> (16 &&& 31)) u3) else (J99 p3 u3))))))))
set_option maxRecDepth 100000 in
set_option maxHeartbeats 4000000 in
theorem tX7_lay {l : Launch} {D : va_G} {cI cZ : ClassId} {ad : Nat → Nat} (F : Nat) (p1 : Int32) (p2 : Int32) (p3 : Int32) (u : St) : CtI l D [(cI, .int), (cZ, .boolean)] (wM ad cI cZ) E0 yX7_lay wsX7_lay ({ frames := 1, cells := 0, slots := 0, locals := 25 } : Room) [.ref (ad 0), .int p1, .int p2, .int p3] u (pX7_lay F p1 p2 p3 u) := by
  refine ctI_of (own := RX7) (cc := cX7_lay) (n := 4) (ret := (some .int)) (by decide) rfl rfl (Nat.le_of_ble_eq_true rfl) (lv := [(0, .ref (ad 0)), (1, .int p1), (2, .int p2), (3, .int p3)]) rfl (fun C => ?_)
  have iX7 : ∀ w ∈ wsX70, w ∈ wsX7_lay := fun w h => List.mem_cons_of_mem _ (List.mem_append_right _ (inlX7 w h))
  rw [pX7_lay]
  refine g_iload_n C 0 1 dX7_lay_0 rfl ?_
  refine g_i2l C 1 dX7_lay_1 ?_
  refine g_lconst C 2 0 dX7_lay_2 rfl ?_
  refine g_ldc2 C 3 3 (by decide +kernel) dX7_lay_3 ?_
  refine g_callSi (st := []) (As := [.long (Int32.toInt64 p1), .long 0, .long 3]) C E0_ok E0_vm 6 3 (tX7_in F (Int32.toInt64 p1) 0 3 u) rfl gX7_lay_X7_in rfl rfl rfl (by decide +kernel) ⟨Nat.le_of_ble_eq_true rfl, Nat.le_of_ble_eq_true rfl⟩ rfl (Nat.le_of_ble_eq_true rfl) dX7_lay_6 (fun r2 u1 => ?_)
  refine g_if_ne C 9 14 dX7_lay_9 (by decide) ?_ ?_
  · skip
    refine g_aload_n C 14 0 dX7_lay_14 rfl ?_
    refine gfM_X7_lanes C 15 iX7 (List.mem_cons_of_mem _ (List.mem_append_right _ wgL_6_0.1)) dX7_lay_15 ?_
    refine g_iload_n C 18 1 dX7_lay_18 rfl ?_
    refine g_iald C 19 (1 + 9) 0 (wM_arr 9 (by decide)) rfl dX7_lay_19 ?_
    refine g_bipush C 20 (-4) dX7_lay_20 rfl ?_
    refine g_icmp_ne C 22 28 dX7_lay_22 (by decide) ?_ ?_
    · skip
      refine g_iload_n C 28 2 dX7_lay_28 rfl ?_
      refine g_i2l C 29 dX7_lay_29 ?_
      refine g_lconst C 30 0 dX7_lay_30 rfl ?_
      refine g_aload_n C 31 0 dX7_lay_31 rfl ?_
      refine gfM_X7_lengths C 32 iX7 (List.mem_cons_of_mem _ (List.mem_append_right _ wgL_6_1.1)) dX7_lay_32 ?_
      refine g_iload_n C 35 1 dX7_lay_35 rfl ?_
      refine g_iald C 36 (1 + 10) 0 (wM_arr 10 (by decide)) rfl dX7_lay_36 ?_
      refine g_iconst C 37 1 dX7_lay_37 rfl ?_
      refine g_isub C 38 dX7_lay_38 ?_
      refine g_i2l C 39 dX7_lay_39 ?_
      refine g_callSi (st := []) (As := [.long (Int32.toInt64 p2), .long 0, .long (Int32.toInt64 ((u1.2 10 (Int32.toNatClampNeg p1)) - 1))]) C E0_ok E0_vm 40 3 (tX7_in F (Int32.toInt64 p2) 0 (Int32.toInt64 ((u1.2 10 (Int32.toNatClampNeg p1)) - 1)) u1) rfl gX7_lay_X7_in rfl rfl rfl (by decide +kernel) ⟨Nat.le_of_ble_eq_true rfl, Nat.le_of_ble_eq_true rfl⟩ rfl (Nat.le_of_ble_eq_true rfl) dX7_lay_40 (fun r4 u3 => ?_)
      refine g_if_ne C 43 49 dX7_lay_43 (by decide) ?_ ?_
      · skip
        refine g_aload_n C 49 0 dX7_lay_49 rfl ?_
        refine gfM_X7_cells C 50 iX7 (List.mem_cons_of_mem _ (List.mem_append_right _ wgL_6_2.1)) dX7_lay_50 ?_
        refine g_bipush C 53 40 dX7_lay_53 rfl ?_
        refine g_iload_n C 55 1 dX7_lay_55 rfl ?_
        refine g_imul C 56 dX7_lay_56 ?_
        refine g_iload_n C 57 2 dX7_lay_57 rfl ?_
        refine g_iadd C 58 dX7_lay_58 ?_
        refine g_aload_n C 59 0 dX7_lay_59 rfl ?_
        refine gfM_X7_lanes C 60 iX7 (List.mem_cons_of_mem _ (List.mem_append_right _ wgL_6_0.1)) dX7_lay_60 ?_
        refine g_iload_n C 63 1 dX7_lay_63 rfl ?_
        refine g_iald C 64 (1 + 9) 0 (wM_arr 9 (by decide)) rfl dX7_lay_64 ?_
        refine g_jn1 99 (fun (a5 : Int32) => []) (fun (a5 : Int32) => [.int a5, .int ((40 * p1) + p2), .ref (ad (1 + 11))]) (fun a5 u6 => ?_) (fun J99 hJ99 => ?_)
        · skip
          refine g_iast C 99 (1 + 11) 0 11 (wM_arr 11 (by decide)) (wM_aset 11 (by decide)) rfl dX7_lay_99 (fun u7 => ?_)
          refine g_iconst C 100 1 dX7_lay_100 rfl ?_
          exact g_iret C 101 dX7_lay_101
        · skip
          refine g_if_ne C 65 78 dX7_lay_65 (by decide) ?_ ?_
          · skip
            refine g_aload_n C 78 0 dX7_lay_78 rfl ?_
            refine gfM_X7_lanes C 79 iX7 (List.mem_cons_of_mem _ (List.mem_append_right _ wgL_6_0.1)) dX7_lay_79 ?_
            refine g_iload_n C 82 1 dX7_lay_82 rfl ?_
            refine g_iald C 83 (1 + 9) 0 (wM_arr 9 (by decide)) rfl dX7_lay_83 ?_
            refine g_iconst C 84 1 dX7_lay_84 rfl ?_
            refine g_icmp_ne C 85 98 dX7_lay_85 (by decide) ?_ ?_
            · skip
              refine g_iload_n C 98 3 dX7_lay_98 rfl ?_
              exact g_sub _ [] rfl (hJ99 p3 u3)
            · skip
              refine g_iload_n C 88 3 dX7_lay_88 rfl ?_
              refine g_bipush C 89 16 dX7_lay_89 rfl ?_
              refine g_ishl C 91 dX7_lay_91 ?_
              refine g_bipush C 92 16 dX7_lay_92 rfl ?_
              refine g_ishr C 94 dX7_lay_94 ?_
              refine g_goto C 95 99 dX7_lay_95 (by decide) ?_
              exact g_sub _ [] rfl (hJ99 ((p3 <<< (16 &&& 31)) >>> (16 &&& 31)) u3)
          · skip
            refine g_iload_n C 68 3 dX7_lay_68 rfl ?_
            refine g_bipush C 69 24 dX7_lay_69 rfl ?_
            refine g_ishl C 71 dX7_lay_71 ?_
            refine g_bipush C 72 24 dX7_lay_72 rfl ?_
            refine g_ishr C 74 dX7_lay_74 ?_
            refine g_goto C 75 99 dX7_lay_75 (by decide) ?_
            exact g_sub _ [] rfl (hJ99 ((p3 <<< (24 &&& 31)) >>> (24 &&& 31)) u3)
      · skip
        refine g_bipush C 46 (-12) dX7_lay_46 rfl ?_
        exact g_iret C 48 dX7_lay_48
    · skip
      refine g_bipush C 25 (-11) dX7_lay_25 rfl ?_
      exact g_iret C 27 dX7_lay_27
  · skip
    refine g_iconst C 12 (-1) dX7_lay_12 rfl ?_
    exact g_iret C 13 dX7_lay_13
def jX7_read_198 (F : Nat)  (a8 : Int32) (a9 : Int32) (u10 : St) : Option (Int32 × St) :=
  vl (stf u10 22 a8) (fun (u11 : St) => some (a9, u11))
def jX7_read_175 (F : Nat)  (a12 : Int32) (u13 : St) : Option (Int32 × St) :=
  bd (pX7_copies F 204 0 u13) (fun (_ : Unit) (u14 : St) => some (((-20) - a12), u14))
def bX7_read_56 (F : Nat) (p1 : Int32) (p2 : Int32) (p3 : Int32) (p4 : Int32) (J198 : Int32 → Int32 → St → Option (Int32 × St)) (J175 : Int32 → St → Option (Int32 × St)) (self19 : Int32 → Int32 → Int32 → St → Option (Int32 × St)) (x15 : Int32) (x16 : Int32) (x17 : Int32) (u18 : St) : Option (Int32 × St) :=
  if (2 * p4) ≤ x17 then (J198 x15 x16 u18) else if x15 = 0 then gd (inb p1 4) (jn (fun (a20 : Int32) (u21 : St) => jn (fun (a22 : Int32) (u23 : St) => (self19 a20 a22 (x17 + 1) u23)) (fun (J192 : Int32 → St → Option (Int32 × St)) => if a20 = 0 then gd (nz 2) (if (irm x17 2) = 1 then vl (((40 * p1) + p3) + x17) (fun v24 => gd (inb (v24 - 1) 160) (gd (inb v24 160) (bd (pX7_hears F (u21.2 11 (Int32.toNatClampNeg (v24 - 1))) (u21.2 11 (Int32.toNatClampNeg v24)) u21) (fun (r26 : Int32) (u25 : St) => if 0 ≤ r26 then (J192 (x16 + 1) u25) else (J175 x16 u25))))) else (J192 x16 u21)) else (J192 x16 u21))) (fun (J126 : Int32 → St → Option (Int32 × St)) => if (u18.2 9 (Int32.toNatClampNeg p1)) = (-4) then (J126 1 u18) else gd (inb p1 4) (if (u18.2 9 (Int32.toNatClampNeg p1)) = p2 then gd (inb p1 4) (bd (pX7_in F ((Int32.toInt64 p3) + (Int32.toInt64 x17)) 0 (Int32.toInt64 ((u18.2 10 (Int32.toNatClampNeg p1)) - 1)) u18) (fun (r28 : Int32) (u27 : St) => if r28 = 0 then (J126 2 u27) else (J126 0 u27))) else (J126 3 u18)))) else (J198 x15 x16 u18)
def pX7_read (F : Nat) (p1 : Int32) (p2 : Int32) (p3 : Int32) (p4 : Int32) (u : St) : Option (Int32 × St) :=
  bd (pX7_in F (Int32.toInt64 p1) 0 3 u) (fun (r2 : Int32) (u1 : St) => if r2 = 0 then some ((-1), u1) else bd (pX7_in F (Int32.toInt64 p2) 0 2 u1) (fun (r4 : Int32) (u3 : St) => if r4 = 0 then some ((-1), u3) else bd (pX7_in F (Int32.toInt64 p4) 0 20 u3) (fun (r6 : Int32) (u5 : St) => if r6 = 0 then some ((-1), u5) else bd (pX7_copies F 0 204 u5) (fun (_ : Unit) (u7 : St) => jn (jX7_read_198 F) (fun (J198 : Int32 → Int32 → St → Option (Int32 × St)) => jn (jX7_read_175 F) (fun (J175 : Int32 → St → Option (Int32 × St)) => (lq3 (bX7_read_56 F p1 p2 p3 p4 J198 J175) F 0 0 0 u7)))))))
set_option maxRecDepth 100000 in
set_option maxHeartbeats 4000000 in
theorem tX7_read {l : Launch} {D : va_G} {cI cZ : ClassId} {ad : Nat → Nat} (F : Nat) (p1 : Int32) (p2 : Int32) (p3 : Int32) (p4 : Int32) (u : St) : CtI l D [(cI, .int), (cZ, .boolean)] (wM ad cI cZ) E0 yX7_read wsX7_read ({ frames := 5, cells := 0, slots := 0, locals := 121 } : Room) [.ref (ad 0), .int p1, .int p2, .int p3, .int p4] u (pX7_read F p1 p2 p3 p4 u) := by
  refine ctI_of (own := RX7) (cc := cX7_read) (n := 9) (ret := (some .int)) (by decide) rfl rfl (Nat.le_of_ble_eq_true rfl) (lv := [(0, .ref (ad 0)), (1, .int p1), (2, .int p2), (3, .int p3), (4, .int p4)]) rfl (fun C => ?_)
  have iX7 : ∀ w ∈ wsX70, w ∈ wsX7_read := fun w h => List.mem_cons_of_mem _ (List.mem_append_right _ (inlX7 w h))
  rw [pX7_read]
  refine g_iload_n C 0 1 dX7_read_0 rfl ?_
  refine g_i2l C 1 dX7_read_1 ?_
  refine g_lconst C 2 0 dX7_read_2 rfl ?_
  refine g_ldc2 C 3 3 (by decide +kernel) dX7_read_3 ?_
  refine g_callSi (st := []) (As := [.long (Int32.toInt64 p1), .long 0, .long 3]) C E0_ok E0_vm 6 3 (tX7_in F (Int32.toInt64 p1) 0 3 u) rfl gX7_read_X7_in rfl rfl rfl (by decide +kernel) ⟨Nat.le_of_ble_eq_true rfl, Nat.le_of_ble_eq_true rfl⟩ rfl (Nat.le_of_ble_eq_true rfl) dX7_read_6 (fun r2 u1 => ?_)
  refine g_if_eq C 9 37 dX7_read_9 (by decide) ?_ ?_
  · skip
    refine g_iconst C 37 (-1) dX7_read_37 rfl ?_
    exact g_iret C 38 dX7_read_38
  · skip
    refine g_iload_n C 12 2 dX7_read_12 rfl ?_
    refine g_i2l C 13 dX7_read_13 ?_
    refine g_lconst C 14 0 dX7_read_14 rfl ?_
    refine g_ldc2 C 15 2 (by decide +kernel) dX7_read_15 ?_
    refine g_callSi (st := []) (As := [.long (Int32.toInt64 p2), .long 0, .long 2]) C E0_ok E0_vm 18 3 (tX7_in F (Int32.toInt64 p2) 0 2 u1) rfl gX7_read_X7_in rfl rfl rfl (by decide +kernel) ⟨Nat.le_of_ble_eq_true rfl, Nat.le_of_ble_eq_true rfl⟩ rfl (Nat.le_of_ble_eq_true rfl) dX7_read_18 (fun r4 u3 => ?_)
    refine g_if_eq C 21 37 dX7_read_21 (by decide) ?_ ?_
    · skip
      refine g_iconst C 37 (-1) dX7_read_37 rfl ?_
      exact g_iret C 38 dX7_read_38
    · skip
      refine g_iload C 24 4 dX7_read_24 rfl ?_
      refine g_i2l C 26 dX7_read_26 ?_
      refine g_lconst C 27 0 dX7_read_27 rfl ?_
      refine g_ldc2 C 28 20 (by decide +kernel) dX7_read_28 ?_
      refine g_callSi (st := []) (As := [.long (Int32.toInt64 p4), .long 0, .long 20]) C E0_ok E0_vm 31 3 (tX7_in F (Int32.toInt64 p4) 0 20 u3) rfl gX7_read_X7_in rfl rfl rfl (by decide +kernel) ⟨Nat.le_of_ble_eq_true rfl, Nat.le_of_ble_eq_true rfl⟩ rfl (Nat.le_of_ble_eq_true rfl) dX7_read_31 (fun r6 u5 => ?_)
      refine g_if_ne C 34 39 dX7_read_34 (by decide) ?_ ?_
      · skip
        refine g_aload_n C 39 0 dX7_read_39 rfl ?_
        refine g_iconst C 40 0 dX7_read_40 rfl ?_
        refine g_sipush C 41 204 dX7_read_41 rfl ?_
        refine g_callVv (st := []) (As := [.int 0, .int 204]) C E0_ok E0_vm 44 0 2 (tX7_copies F 0 204 u5) rfl gX7_read_X7_copies rfl rfl rfl (by decide +kernel) ⟨Nat.le_of_ble_eq_true rfl, Nat.le_of_ble_eq_true rfl⟩ rfl rfl rfl (Nat.le_of_ble_eq_true rfl) dX7_read_44 (fun u7 => ?_)
        refine g_iconst C 47 0 dX7_read_47 rfl ?_
        refine g_istore C 48 [(5, .int 0), (0, .ref (ad 0)), (1, .int p1), (2, .int p2), (3, .int p3), (4, .int p4)] dX7_read_48 (by decide) rfl ?_
        refine g_iconst C 50 0 dX7_read_50 rfl ?_
        refine g_istore C 51 [(6, .int 0), (5, .int 0), (0, .ref (ad 0)), (1, .int p1), (2, .int p2), (3, .int p3), (4, .int p4)] dX7_read_51 (by decide) rfl ?_
        refine g_iconst C 53 0 dX7_read_53 rfl ?_
        refine g_istore C 54 [(7, .int 0), (6, .int 0), (5, .int 0), (0, .ref (ad 0)), (1, .int p1), (2, .int p2), (3, .int p3), (4, .int p4)] dX7_read_54 (by decide) rfl ?_
        refine g_jn2 198 (fun (a8 : Int32) (a9 : Int32) => [(0, .ref (ad 0)), (5, .int a8), (6, .int a9)]) (fun (a8 : Int32) (a9 : Int32) => []) (fun a8 a9 u10 => ?_) (fun J198 hJ198 => ?_)
        · skip
          rw [jX7_read_198]
          refine g_aload_n C 198 0 dX7_read_198 rfl ?_
          refine g_iload C 199 1 dX7_read_199 rfl ?_
          refine pfM_X7_torn C 201 iX7 (List.mem_cons_of_mem _ (List.mem_append_right _ wgL_46_0.1)) dX7_read_201 (fun u11 => ?_)
          refine g_iload C 204 2 dX7_read_204 rfl ?_
          exact g_iret C 206 dX7_read_206
        · skip
          refine g_jn1 175 (fun (a12 : Int32) => [(0, .ref (ad 0)), (6, .int a12)]) (fun (a12 : Int32) => []) (fun a12 u13 => ?_) (fun J175 hJ175 => ?_)
          · skip
            rw [jX7_read_175]
            refine g_aload_n C 175 0 dX7_read_175 rfl ?_
            refine g_sipush C 176 204 dX7_read_176 rfl ?_
            refine g_iconst C 179 0 dX7_read_179 rfl ?_
            refine g_callVv (st := []) (As := [.int 204, .int 0]) C E0_ok E0_vm 180 0 2 (tX7_copies F 204 0 u13) rfl gX7_read_X7_copies rfl rfl rfl (by decide +kernel) ⟨Nat.le_of_ble_eq_true rfl, Nat.le_of_ble_eq_true rfl⟩ rfl rfl rfl (Nat.le_of_ble_eq_true rfl) dX7_read_180 (fun u14 => ?_)
            refine g_bipush C 183 (-20) dX7_read_183 rfl ?_
            refine g_iload C 185 1 dX7_read_185 rfl ?_
            refine g_isub C 187 dX7_read_187 ?_
            exact g_iret C 188 dX7_read_188
          · skip
            refine g_sub _ [3, 4, 5, 6, 7, 2, 1, 0] rfl ?_
            refine g_lq3 (fun (x15 : Int32) (x16 : Int32) (x17 : Int32) => [(0, .ref (ad 0)), (1, .int p1), (2, .int p2), (3, .int p3), (4, .int p4), (5, .int x15), (6, .int x16), (7, .int x17)]) (fun self19 hself19 x15 x16 x17 u18 => ?_) F 0 0 0 u7
            rw [bX7_read_56]
            refine g_iload C 56 7 dX7_read_56 rfl ?_
            refine g_iconst C 58 2 dX7_read_58 rfl ?_
            refine g_iload C 59 4 dX7_read_59 rfl ?_
            refine g_imul C 61 dX7_read_61 ?_
            refine g_icmp_ge C 62 198 dX7_read_62 (by decide) ?_ ?_
            · skip
              exact g_sub _ [0, 5, 6] rfl (hJ198 x15 x16 u18)
            · skip
              refine g_iload C 65 5 dX7_read_65 rfl ?_
              refine g_if_ne C 67 198 dX7_read_67 (by decide) ?_ ?_
              · skip
                exact g_sub _ [0, 5, 6] rfl (hJ198 x15 x16 u18)
              · skip
                refine g_aload_n C 70 0 dX7_read_70 rfl ?_
                refine gfM_X7_lanes C 71 iX7 (List.mem_cons_of_mem _ (List.mem_append_right _ wgL_6_0.1)) dX7_read_71 ?_
                refine g_iload_n C 74 1 dX7_read_74 rfl ?_
                refine g_iald C 75 (1 + 9) 0 (wM_arr 9 (by decide)) rfl dX7_read_75 ?_
                refine g_bipush C 76 (-4) dX7_read_76 rfl ?_
                refine g_jn1 126 (fun (a20 : Int32) => [(0, .ref (ad 0)), (1, .int p1), (2, .int p2), (3, .int p3), (4, .int p4), (6, .int x16), (7, .int x17)]) (fun (a20 : Int32) => [.int a20]) (fun a20 u21 => ?_) (fun J126 hJ126 => ?_)
                · skip
                  refine g_istore C 126 [(5, .int a20), (0, .ref (ad 0)), (1, .int p1), (2, .int p2), (3, .int p3), (4, .int p4), (6, .int x16), (7, .int x17)] dX7_read_126 (by decide) rfl ?_
                  refine g_iload C 128 0 dX7_read_128 rfl ?_
                  refine g_jn1 192 (fun (a22 : Int32) => [(0, .ref (ad 0)), (1, .int p1), (2, .int p2), (3, .int p3), (4, .int p4), (5, .int a20), (6, .int a22), (7, .int x17)]) (fun (a22 : Int32) => []) (fun a22 u23 => ?_) (fun J192 hJ192 => ?_)
                  · skip
                    refine g_iinc C 192 7 [(7, .int (x17 + 1)), (0, .ref (ad 0)), (1, .int p1), (2, .int p2), (3, .int p3), (4, .int p4), (5, .int a20), (6, .int a22)] dX7_read_192 rfl rfl (by decide) rfl ?_
                    refine g_goto C 195 56 dX7_read_195 (by decide) ?_
                    exact g_sub _ [1, 2, 3, 4, 5, 6, 7, 0] rfl (hself19 a20 a22 (x17 + 1) u23)
                  · skip
                    refine g_if_ne C 130 192 dX7_read_130 (by decide) ?_ ?_
                    · skip
                      exact g_sub _ [1, 2, 3, 4, 5, 0, 6, 7] rfl (hJ192 x16 u21)
                    · skip
                      refine g_iload C 133 7 dX7_read_133 rfl ?_
                      refine g_iconst C 135 2 dX7_read_135 rfl ?_
                      refine g_irem C 136 dX7_read_136 ?_
                      refine g_iconst C 137 1 dX7_read_137 rfl ?_
                      refine g_icmp_ne C 138 192 dX7_read_138 (by decide) ?_ ?_
                      · skip
                        exact g_sub _ [1, 2, 3, 4, 5, 0, 6, 7] rfl (hJ192 x16 u21)
                      · skip
                        refine g_bipush C 141 40 dX7_read_141 rfl ?_
                        refine g_iload_n C 143 2 dX7_read_143 rfl ?_
                        refine g_imul C 144 dX7_read_144 ?_
                        refine g_iload_n C 145 4 dX7_read_145 rfl ?_
                        refine g_iadd C 146 dX7_read_146 ?_
                        refine g_iload C 147 7 dX7_read_147 rfl ?_
                        refine g_iadd C 149 dX7_read_149 ?_
                        refine g_istoreV C 150 (fun v24 => [(8, .int v24), (5, .int a20), (0, .ref (ad 0)), (1, .int p1), (2, .int p2), (3, .int p3), (4, .int p4), (6, .int x16), (7, .int x17)]) dX7_read_150 (by decide) (fun _ => rfl) (fun v24 => ?_)
                        refine g_aload_n C 152 2 dX7_read_152 rfl ?_
                        refine g_aload_n C 153 2 dX7_read_153 rfl ?_
                        refine gfM_X7_cells C 154 iX7 (List.mem_cons_of_mem _ (List.mem_append_right _ wgL_6_2.1)) dX7_read_154 ?_
                        refine g_iload C 157 0 dX7_read_157 rfl ?_
                        refine g_iconst C 159 1 dX7_read_159 rfl ?_
                        refine g_isub C 160 dX7_read_160 ?_
                        refine g_iald C 161 (1 + 11) 0 (wM_arr 11 (by decide)) rfl dX7_read_161 ?_
                        refine g_aload_n C 162 2 dX7_read_162 rfl ?_
                        refine gfM_X7_cells C 163 iX7 (List.mem_cons_of_mem _ (List.mem_append_right _ wgL_6_2.1)) dX7_read_163 ?_
                        refine g_iload C 166 0 dX7_read_166 rfl ?_
                        refine g_iald C 168 (1 + 11) 0 (wM_arr 11 (by decide)) rfl dX7_read_168 ?_
                        refine g_callVi (st := []) (As := [.int (u21.2 11 (Int32.toNatClampNeg (v24 - 1))), .int (u21.2 11 (Int32.toNatClampNeg v24))]) C E0_ok E0_vm 169 0 2 (tX7_hears F (u21.2 11 (Int32.toNatClampNeg (v24 - 1))) (u21.2 11 (Int32.toNatClampNeg v24)) u21) rfl gX7_read_X7_hears rfl rfl rfl (by decide +kernel) ⟨Nat.le_of_ble_eq_true rfl, Nat.le_of_ble_eq_true rfl⟩ rfl rfl rfl (Nat.le_of_ble_eq_true rfl) dX7_read_169 (fun r26 u25 => ?_)
                        refine g_if_ge C 172 189 dX7_read_172 (by decide) ?_ ?_
                        · skip
                          refine g_iinc C 189 7 [(6, .int (x16 + 1)), (8, .int v24), (5, .int a20), (0, .ref (ad 0)), (1, .int p1), (2, .int p2), (3, .int p3), (4, .int p4), (7, .int x17)] dX7_read_189 rfl rfl (by decide) rfl ?_
                          exact g_sub _ [3, 4, 5, 6, 7, 2, 0, 8] rfl (hJ192 (x16 + 1) u25)
                        · skip
                          exact g_sub _ [2, 7] rfl (hJ175 x16 u25)
                · skip
                  refine g_icmp_ne C 78 85 dX7_read_78 (by decide) ?_ ?_
                  · skip
                    refine g_aload_n C 85 0 dX7_read_85 rfl ?_
                    refine gfM_X7_lanes C 86 iX7 (List.mem_cons_of_mem _ (List.mem_append_right _ wgL_6_0.1)) dX7_read_86 ?_
                    refine g_iload_n C 89 1 dX7_read_89 rfl ?_
                    refine g_iald C 90 (1 + 9) 0 (wM_arr 9 (by decide)) rfl dX7_read_90 ?_
                    refine g_iload_n C 91 2 dX7_read_91 rfl ?_
                    refine g_icmp_eq C 92 99 dX7_read_92 (by decide) ?_ ?_
                    · skip
                      refine g_iload_n C 99 3 dX7_read_99 rfl ?_
                      refine g_i2l C 100 dX7_read_100 ?_
                      refine g_iload C 101 7 dX7_read_101 rfl ?_
                      refine g_i2l C 103 dX7_read_103 ?_
                      refine g_ladd C 104 dX7_read_104 ?_
                      refine g_lconst C 105 0 dX7_read_105 rfl ?_
                      refine g_aload_n C 106 0 dX7_read_106 rfl ?_
                      refine gfM_X7_lengths C 107 iX7 (List.mem_cons_of_mem _ (List.mem_append_right _ wgL_6_1.1)) dX7_read_107 ?_
                      refine g_iload_n C 110 1 dX7_read_110 rfl ?_
                      refine g_iald C 111 (1 + 10) 0 (wM_arr 10 (by decide)) rfl dX7_read_111 ?_
                      refine g_iconst C 112 1 dX7_read_112 rfl ?_
                      refine g_isub C 113 dX7_read_113 ?_
                      refine g_i2l C 114 dX7_read_114 ?_
                      refine g_callSi (st := []) (As := [.long ((Int32.toInt64 p3) + (Int32.toInt64 x17)), .long 0, .long (Int32.toInt64 ((u18.2 10 (Int32.toNatClampNeg p1)) - 1))]) C E0_ok E0_vm 115 3 (tX7_in F ((Int32.toInt64 p3) + (Int32.toInt64 x17)) 0 (Int32.toInt64 ((u18.2 10 (Int32.toNatClampNeg p1)) - 1)) u18) rfl gX7_read_X7_in rfl rfl rfl (by decide +kernel) ⟨Nat.le_of_ble_eq_true rfl, Nat.le_of_ble_eq_true rfl⟩ rfl (Nat.le_of_ble_eq_true rfl) dX7_read_115 (fun r28 u27 => ?_)
                      refine g_if_ne C 118 125 dX7_read_118 (by decide) ?_ ?_
                      · skip
                        refine g_iconst C 125 0 dX7_read_125 rfl ?_
                        exact g_sub _ [0, 1, 2, 3, 4, 6, 7] rfl (hJ126 0 u27)
                      · skip
                        refine g_iconst C 121 2 dX7_read_121 rfl ?_
                        refine g_goto C 122 126 dX7_read_122 (by decide) ?_
                        exact g_sub _ [0, 1, 2, 3, 4, 6, 7] rfl (hJ126 2 u27)
                    · skip
                      refine g_iconst C 95 3 dX7_read_95 rfl ?_
                      refine g_goto C 96 126 dX7_read_96 (by decide) ?_
                      exact g_sub _ [0, 1, 2, 3, 4, 6, 7] rfl (hJ126 3 u18)
                  · skip
                    refine g_iconst C 81 1 dX7_read_81 rfl ?_
                    refine g_goto C 82 126 dX7_read_82 (by decide) ?_
                    exact g_sub _ [0, 1, 2, 3, 4, 6, 7] rfl (hJ126 1 u18)
      · skip
        refine g_iconst C 37 (-1) dX7_read_37 rfl ?_
        exact g_iret C 38 dX7_read_38
def pX7_torn (F : Nat)  (u : St) : Option (Int32 × St) :=
  some ((u.1 22), u)
set_option maxRecDepth 100000 in
set_option maxHeartbeats 4000000 in
theorem tX7_torn {l : Launch} {D : va_G} {cI cZ : ClassId} {ad : Nat → Nat} (F : Nat)  (u : St) : CtI l D [(cI, .int), (cZ, .boolean)] (wM ad cI cZ) E0 yX7_torn wsX7_torn ({ frames := 0, cells := 0, slots := 0, locals := 0 } : Room) [.ref (ad 0)] u (pX7_torn F u) := by
  refine ctI_of (own := RX7) (cc := cX7_torn) (n := 1) (ret := (some .int)) (by decide) rfl rfl (Nat.le_of_ble_eq_true rfl) (lv := [(0, .ref (ad 0))]) rfl (fun C => ?_)
  have iX7 : ∀ w ∈ wsX70, w ∈ wsX7_torn := fun w h => List.mem_cons_of_mem _ (List.mem_append_right _ (inlX7 w h))
  rw [pX7_torn]
  refine g_aload_n C 0 0 dX7_torn_0 rfl ?_
  refine gfM_X7_torn C 1 iX7 (List.mem_cons_of_mem _ (List.mem_append_right _ wgL_46_0.1)) dX7_torn_1 ?_
  exact g_iret C 4 dX7_torn_4
def jX7_count_65 (F : Nat) (p1 : Int32) (a1 : Int32) (a2 : Int32) (u3 : St) : Option (Int32 × St) :=
  if p1 = 0 then some ((u3.1 21), u3) else if p1 = 1 then gd (inb 0 2) (jn (fun (a4 : Int32) (u5 : St) => gd (inb 1 2) (if (u5.2 12 (Int32.toNatClampNeg 1)) = 0 then some ((a4 + 0), u5) else some ((a4 + 1), u5))) (fun (J123 : Int32 → St → Option (Int32 × St)) => if (u3.2 12 (Int32.toNatClampNeg 0)) = 0 then (J123 0 u3) else (J123 1 u3))) else if p1 = 2 then some ((u3.1 7), u3) else if p1 = 3 then gd (inb 0 4) (if (u3.2 9 (Int32.toNatClampNeg 0)) = (-4) then some ((-4), u3) else gd (inb 0 4) (some ((u3.2 10 (Int32.toNatClampNeg 0)), u3))) else if p1 = 4 then some (a1, u3) else if p1 = 5 then some (a2, u3) else some ((-1), u3)
def bX7_count_7 (F : Nat) (J65 : Int32 → Int32 → St → Option (Int32 × St)) (self10 : Int32 → Int32 → Int32 → St → Option (Int32 × St)) (x6 : Int32) (x7 : Int32) (x8 : Int32) (u9 : St) : Option (Int32 × St) :=
  if (u9.1 0) ≤ x8 then (J65 x6 x7 u9) else gd (inb (16 + (2 * x8)) 408) (gd (inb ((16 + (2 * x8)) + 1) 408) (vl (x6 + ((u9.2 0 (Int32.toNatClampNeg (16 + (2 * x8)))) + (u9.2 0 (Int32.toNatClampNeg ((16 + (2 * x8)) + 1))))) (fun v11 => gd (inb (28 + x8) 408) (vl (x7 + (u9.2 0 (Int32.toNatClampNeg (28 + x8)))) (fun v12 => (self10 v11 v12 (x8 + 1) u9))))))
def pX7_count (F : Nat) (p1 : Int32) (u : St) : Option (Int32 × St) :=
  jn (jX7_count_65 F p1) (fun (J65 : Int32 → Int32 → St → Option (Int32 × St)) => (lq3 (bX7_count_7 F J65) F 0 0 0 u))
set_option maxRecDepth 100000 in
set_option maxHeartbeats 4000000 in
theorem tX7_count {l : Launch} {D : va_G} {cI cZ : ClassId} {ad : Nat → Nat} (F : Nat) (p1 : Int32) (u : St) : CtI l D [(cI, .int), (cZ, .boolean)] (wM ad cI cZ) E0 yX7_count wsX7_count ({ frames := 0, cells := 0, slots := 0, locals := 0 } : Room) [.ref (ad 0), .int p1] u (pX7_count F p1 u) := by
  refine ctI_of (own := RX7) (cc := cX7_count) (n := 5) (ret := (some .int)) (by decide) rfl rfl (Nat.le_of_ble_eq_true rfl) (lv := [(0, .ref (ad 0)), (1, .int p1)]) rfl (fun C => ?_)
  have iX7 : ∀ w ∈ wsX70, w ∈ wsX7_count := fun w h => List.mem_cons_of_mem _ (List.mem_append_right _ (inlX7 w h))
  rw [pX7_count]
  refine g_iconst C 0 0 dX7_count_0 rfl ?_
  refine g_istore_n C 1 [(2, .int 0), (0, .ref (ad 0)), (1, .int p1)] dX7_count_1 (by decide) rfl ?_
  refine g_iconst C 2 0 dX7_count_2 rfl ?_
  refine g_istore_n C 3 [(3, .int 0), (2, .int 0), (0, .ref (ad 0)), (1, .int p1)] dX7_count_3 (by decide) rfl ?_
  refine g_iconst C 4 0 dX7_count_4 rfl ?_
  refine g_istore C 5 [(4, .int 0), (3, .int 0), (2, .int 0), (0, .ref (ad 0)), (1, .int p1)] dX7_count_5 (by decide) rfl ?_
  refine g_jn2 65 (fun (a1 : Int32) (a2 : Int32) => [(0, .ref (ad 0)), (1, .int p1), (2, .int a1), (3, .int a2)]) (fun (a1 : Int32) (a2 : Int32) => []) (fun a1 a2 u3 => ?_) (fun J65 hJ65 => ?_)
  · skip
    rw [jX7_count_65]
    refine g_iload_n C 65 1 dX7_count_65 rfl ?_
    refine g_tsw C 66 104 0 dX7_count_66 (by decide) rfl (by decide) ?_ (fun q0 => ?_)
    · skip
      refine g_aload_n C 104 0 dX7_count_104 rfl ?_
      refine gfM_X7_seenMany C 105 iX7 (List.mem_cons_of_mem _ (List.mem_append_right _ wgL_15_18.1)) dX7_count_105 ?_
      exact g_iret C 108 dX7_count_108
    refine g_tsw C 66 109 1 dX7_count_66 (by decide) rfl (by decide) ?_ (fun q1 => ?_)
    · skip
      refine g_aload_n C 109 0 dX7_count_109 rfl ?_
      refine gfM_X7_isKept C 110 iX7 (List.mem_cons_of_mem _ (List.mem_append_right _ wgL_5_23.1)) dX7_count_110 ?_
      refine g_iconst C 113 0 dX7_count_113 rfl ?_
      refine g_zald C 114 (1 + 12) 1 (wM_arrz 12 (by decide) (by decide)) rfl dX7_count_114 ?_
      refine g_jn1 123 (fun (a4 : Int32) => [(0, .ref (ad 0))]) (fun (a4 : Int32) => [.int a4]) (fun a4 u5 => ?_) (fun J123 hJ123 => ?_)
      · skip
        refine g_aload_n C 123 0 dX7_count_123 rfl ?_
        refine gfM_X7_isKept C 124 iX7 (List.mem_cons_of_mem _ (List.mem_append_right _ wgL_5_23.1)) dX7_count_124 ?_
        refine g_iconst C 127 1 dX7_count_127 rfl ?_
        refine g_zald C 128 (1 + 12) 1 (wM_arrz 12 (by decide) (by decide)) rfl dX7_count_128 ?_
        refine g_if_eq C 129 136 dX7_count_129 (by decide) ?_ ?_
        · skip
          refine g_iconst C 136 0 dX7_count_136 rfl ?_
          refine g_iadd C 137 dX7_count_137 ?_
          exact g_iret C 138 dX7_count_138
        · skip
          refine g_iconst C 132 1 dX7_count_132 rfl ?_
          refine g_goto C 133 137 dX7_count_133 (by decide) ?_
          refine g_iadd C 137 dX7_count_137 ?_
          exact g_iret C 138 dX7_count_138
      · skip
        refine g_if_eq C 115 122 dX7_count_115 (by decide) ?_ ?_
        · skip
          refine g_iconst C 122 0 dX7_count_122 rfl ?_
          exact g_sub _ [0] rfl (hJ123 0 u3)
        · skip
          refine g_iconst C 118 1 dX7_count_118 rfl ?_
          refine g_goto C 119 123 dX7_count_119 (by decide) ?_
          exact g_sub _ [0] rfl (hJ123 1 u3)
    refine g_tsw C 66 139 2 dX7_count_66 (by decide) rfl (by decide) ?_ (fun q2 => ?_)
    · skip
      refine g_aload_n C 139 0 dX7_count_139 rfl ?_
      refine gfM_X7_taped C 140 iX7 (List.mem_cons_of_mem _ (List.mem_append_right _ wgL_6_20.1)) dX7_count_140 ?_
      exact g_iret C 143 dX7_count_143
    refine g_tsw C 66 144 3 dX7_count_66 (by decide) rfl (by decide) ?_ (fun q3 => ?_)
    · skip
      refine g_aload_n C 144 0 dX7_count_144 rfl ?_
      refine gfM_X7_lanes C 145 iX7 (List.mem_cons_of_mem _ (List.mem_append_right _ wgL_6_0.1)) dX7_count_145 ?_
      refine g_iconst C 148 0 dX7_count_148 rfl ?_
      refine g_iald C 149 (1 + 9) 0 (wM_arr 9 (by decide)) rfl dX7_count_149 ?_
      refine g_bipush C 150 (-4) dX7_count_150 rfl ?_
      refine g_icmp_ne C 152 160 dX7_count_152 (by decide) ?_ ?_
      · skip
        refine g_aload_n C 160 0 dX7_count_160 rfl ?_
        refine gfM_X7_lengths C 161 iX7 (List.mem_cons_of_mem _ (List.mem_append_right _ wgL_6_1.1)) dX7_count_161 ?_
        refine g_iconst C 164 0 dX7_count_164 rfl ?_
        refine g_iald C 165 (1 + 10) 0 (wM_arr 10 (by decide)) rfl dX7_count_165 ?_
        exact g_iret C 166 dX7_count_166
      · skip
        refine g_bipush C 155 (-4) dX7_count_155 rfl ?_
        refine g_goto C 157 166 dX7_count_157 (by decide) ?_
        exact g_iret C 166 dX7_count_166
    refine g_tsw C 66 167 4 dX7_count_66 (by decide) rfl (by decide) ?_ (fun q4 => ?_)
    · skip
      refine g_iload_n C 167 2 dX7_count_167 rfl ?_
      exact g_iret C 168 dX7_count_168
    refine g_tsw C 66 169 5 dX7_count_66 (by decide) rfl (by decide) ?_ (fun q5 => ?_)
    · skip
      refine g_iload_n C 169 3 dX7_count_169 rfl ?_
      exact g_iret C 170 dX7_count_170
    refine g_tswD C 66 171 dX7_count_66 (by have r0 := lv_neT (a := 0) q0 rfl; have r1 := lv_neT (a := 1) q1 rfl; have r2 := lv_neT (a := 2) q2 rfl; have r3 := lv_neT (a := 3) q3 rfl; have r4 := lv_neT (a := 4) q4 rfl; have r5 := lv_neT (a := 5) q5 rfl; omega) (by decide) ?_
    refine g_iconst C 171 (-1) dX7_count_171 rfl ?_
    exact g_iret C 172 dX7_count_172
  · skip
    refine g_sub _ [3, 4, 2, 1, 0] rfl ?_
    refine g_lq3 (fun (x6 : Int32) (x7 : Int32) (x8 : Int32) => [(0, .ref (ad 0)), (1, .int p1), (2, .int x6), (3, .int x7), (4, .int x8)]) (fun self10 hself10 x6 x7 x8 u9 => ?_) F 0 0 0 u
    rw [bX7_count_7]
    refine g_iload C 7 4 dX7_count_7 rfl ?_
    refine g_aload_n C 9 0 dX7_count_9 rfl ?_
    refine gfM_X7_caseMany C 10 iX7 (List.mem_cons_of_mem _ (List.mem_append_right _ wgL_15_16.1)) dX7_count_10 ?_
    refine g_icmp_ge C 13 65 dX7_count_13 (by decide) ?_ ?_
    · skip
      exact g_sub _ [0, 1, 2, 3] rfl (hJ65 x6 x7 u9)
    · skip
      refine g_iload_n C 16 2 dX7_count_16 rfl ?_
      refine g_aload_n C 17 0 dX7_count_17 rfl ?_
      refine gfM_X7_state C 18 iX7 (List.mem_cons_of_mem _ (List.mem_append_right _ wgL_5_14.1)) dX7_count_18 ?_
      refine g_bipush C 21 16 dX7_count_21 rfl ?_
      refine g_iconst C 23 2 dX7_count_23 rfl ?_
      refine g_iload C 24 4 dX7_count_24 rfl ?_
      refine g_imul C 26 dX7_count_26 ?_
      refine g_iadd C 27 dX7_count_27 ?_
      refine g_iald C 28 (1 + 0) 0 (wM_arr 0 (by decide)) rfl dX7_count_28 ?_
      refine g_aload_n C 29 0 dX7_count_29 rfl ?_
      refine gfM_X7_state C 30 iX7 (List.mem_cons_of_mem _ (List.mem_append_right _ wgL_5_14.1)) dX7_count_30 ?_
      refine g_bipush C 33 16 dX7_count_33 rfl ?_
      refine g_iconst C 35 2 dX7_count_35 rfl ?_
      refine g_iload C 36 4 dX7_count_36 rfl ?_
      refine g_imul C 38 dX7_count_38 ?_
      refine g_iadd C 39 dX7_count_39 ?_
      refine g_iconst C 40 1 dX7_count_40 rfl ?_
      refine g_iadd C 41 dX7_count_41 ?_
      refine g_iald C 42 (1 + 0) 0 (wM_arr 0 (by decide)) rfl dX7_count_42 ?_
      refine g_iadd C 43 dX7_count_43 ?_
      refine g_iadd C 44 dX7_count_44 ?_
      refine g_istore_nV C 45 (fun v11 => [(2, .int v11), (0, .ref (ad 0)), (1, .int p1), (3, .int x7), (4, .int x8)]) dX7_count_45 (by decide) (fun _ => rfl) (fun v11 => ?_)
      refine g_iload_n C 46 3 dX7_count_46 rfl ?_
      refine g_aload_n C 47 1 dX7_count_47 rfl ?_
      refine gfM_X7_state C 48 iX7 (List.mem_cons_of_mem _ (List.mem_append_right _ wgL_5_14.1)) dX7_count_48 ?_
      refine g_bipush C 51 28 dX7_count_51 rfl ?_
      refine g_iload C 53 4 dX7_count_53 rfl ?_
      refine g_iadd C 55 dX7_count_55 ?_
      refine g_iald C 56 (1 + 0) 0 (wM_arr 0 (by decide)) rfl dX7_count_56 ?_
      refine g_iadd C 57 dX7_count_57 ?_
      refine g_istore_nV C 58 (fun v12 => [(3, .int v12), (2, .int v11), (0, .ref (ad 0)), (1, .int p1), (4, .int x8)]) dX7_count_58 (by decide) (fun _ => rfl) (fun v12 => ?_)
      refine g_iinc C 59 4 [(4, .int (x8 + 1)), (3, .int v12), (2, .int v11), (0, .ref (ad 0)), (1, .int p1)] dX7_count_59 rfl rfl (by decide) rfl ?_
      refine g_goto C 62 7 dX7_count_62 (by decide) ?_
      exact g_sub _ [3, 4, 2, 1, 0] rfl (hself10 v11 v12 (x8 + 1) u9)
end
