def pX7_back (F : Nat) (p1 : Int32) (u : St) : Option (Int32 × St) :=
  bd (pX7_in F (Int32.toInt64 p1) 0 1 u) (fun (r2 : Int32) (u1 : St) => if r2 = 0 then some ((-1), u1) else gd (inb p1 2) (if (u1.2 12 (Int32.toNatClampNeg p1)) = 0 then some ((-2), u1) else bd (pX7_copies F (68 * (p1 + 1)) 0 u1) (fun (_ : Unit) (u3 : St) => bd (pX7_lengthsOn F 0 u3) (fun (r5 : Int32) (u4 : St) => some (r5, u4)))))
set_option maxRecDepth 100000 in
set_option maxHeartbeats 4000000 in
theorem tX7_back {l : Launch} {D : va_G} {cI cZ : ClassId} {ad : Nat → Nat} (F : Nat) (p1 : Int32) (u : St) : CtI l D [(cI, .int), (cZ, .boolean)] (wM ad cI cZ) E0 yX7_back wsX7_back ({ frames := 1, cells := 0, slots := 0, locals := 25 } : Room) [.ref (ad 0), .int p1] u (pX7_back F p1 u) := by
  refine ctI_of (own := RX7) (cc := cX7_back) (n := 2) (ret := (some .int)) (by decide) rfl rfl (Nat.le_of_ble_eq_true rfl) (lv := [(0, .ref (ad 0)), (1, .int p1)]) rfl (fun C => ?_)
  have iX7 : ∀ w ∈ wsX70, w ∈ wsX7_back := fun w h => List.mem_cons_of_mem _ (List.mem_append_right _ (inlX7 w h))
  rw [pX7_back]
  refine g_iload_n C 0 1 dX7_back_0 rfl ?_
  refine g_i2l C 1 dX7_back_1 ?_
  refine g_lconst C 2 0 dX7_back_2 rfl ?_
  refine g_lconst C 3 1 dX7_back_3 rfl ?_
  refine g_callSi (st := []) (As := [.long (Int32.toInt64 p1), .long 0, .long 1]) C E0_ok E0_vm 4 3 (tX7_in F (Int32.toInt64 p1) 0 1 u) rfl gX7_back_X7_in rfl rfl rfl (by decide +kernel) ⟨Nat.le_of_ble_eq_true rfl, Nat.le_of_ble_eq_true rfl⟩ rfl (Nat.le_of_ble_eq_true rfl) dX7_back_4 (fun r2 u1 => ?_)
  refine g_if_ne C 7 12 dX7_back_7 (by decide) ?_ ?_
  · skip
    refine g_aload_n C 12 0 dX7_back_12 rfl ?_
    refine gfM_X7_isKept C 13 iX7 (List.mem_cons_of_mem _ (List.mem_append_right _ wgL_5_23.1)) dX7_back_13 ?_
    refine g_iload_n C 16 1 dX7_back_16 rfl ?_
    refine g_zald C 17 (1 + 12) 1 (wM_arrz 12 (by decide) (by decide)) rfl dX7_back_17 ?_
    refine g_if_ne C 18 24 dX7_back_18 (by decide) ?_ ?_
    · skip
      refine g_aload_n C 24 0 dX7_back_24 rfl ?_
      refine g_bipush C 25 68 dX7_back_25 rfl ?_
      refine g_iload_n C 27 1 dX7_back_27 rfl ?_
      refine g_iconst C 28 1 dX7_back_28 rfl ?_
      refine g_iadd C 29 dX7_back_29 ?_
      refine g_imul C 30 dX7_back_30 ?_
      refine g_iconst C 31 0 dX7_back_31 rfl ?_
      refine g_callVv (st := []) (As := [.int (68 * (p1 + 1)), .int 0]) C E0_ok E0_vm 32 0 2 (tX7_copies F (68 * (p1 + 1)) 0 u1) rfl gX7_back_X7_copies rfl rfl rfl (by decide +kernel) ⟨Nat.le_of_ble_eq_true rfl, Nat.le_of_ble_eq_true rfl⟩ rfl rfl rfl (Nat.le_of_ble_eq_true rfl) dX7_back_32 (fun u3 => ?_)
      refine g_aload_n C 35 0 dX7_back_35 rfl ?_
      refine g_iconst C 36 0 dX7_back_36 rfl ?_
      refine g_callVi (st := []) (As := [.int 0]) C E0_ok E0_vm 37 0 1 (tX7_lengthsOn F 0 u3) rfl gX7_back_X7_lengthsOn rfl rfl rfl (by decide +kernel) ⟨Nat.le_of_ble_eq_true rfl, Nat.le_of_ble_eq_true rfl⟩ rfl rfl rfl (Nat.le_of_ble_eq_true rfl) dX7_back_37 (fun r5 u4 => ?_)
      exact g_iret C 40 dX7_back_40
    · skip
      refine g_bipush C 21 (-2) dX7_back_21 rfl ?_
      exact g_iret C 23 dX7_back_23
  · skip
    refine g_iconst C 10 (-1) dX7_back_10 rfl ?_
    exact g_iret C 11 dX7_back_11
def bX7_sheet_56 (F : Nat) (p1 : Int32) (self9 : Int32 → St → Option (Int32 × St)) (x7 : Int32) (u8 : St) : Option (Int32 × St) :=
  if 40 ≤ x7 then some (1, u8) else gd (inb ((40 * p1) + x7) 160) (vl (sta u8 11 ((40 * p1) + x7) 0) (fun (u10 : St) => (self9 (x7 + 1) u10)))
def pX7_sheet (F : Nat) (p1 : Int32) (p2 : Int32) (p3 : Int32) (u : St) : Option (Int32 × St) :=
  bd (pX7_in F (Int32.toInt64 p1) 0 3 u) (fun (r2 : Int32) (u1 : St) => if r2 = 0 then some ((-1), u1) else bd (pX7_in F (Int32.toInt64 p2) 0 2 u1) (fun (r4 : Int32) (u3 : St) => if r4 = 0 then some ((-1), u3) else if p3 ≤ 40 then if 0 ≤ p3 then gd (inb p1 4) (vl (sta u3 9 p1 p2) (fun (u5 : St) => gd (inb p1 4) (vl (sta u5 10 p1 p3) (fun (u6 : St) => (lq1 (bX7_sheet_56 F p1) F 0 u6))))) else some ((-14), u3) else some ((-1), u3)))
set_option maxRecDepth 100000 in
set_option maxHeartbeats 4000000 in
theorem tX7_sheet {l : Launch} {D : va_G} {cI cZ : ClassId} {ad : Nat → Nat} (F : Nat) (p1 : Int32) (p2 : Int32) (p3 : Int32) (u : St) : CtI l D [(cI, .int), (cZ, .boolean)] (wM ad cI cZ) E0 yX7_sheet wsX7_sheet ({ frames := 1, cells := 0, slots := 0, locals := 25 } : Room) [.ref (ad 0), .int p1, .int p2, .int p3] u (pX7_sheet F p1 p2 p3 u) := by
  refine ctI_of (own := RX7) (cc := cX7_sheet) (n := 5) (ret := (some .int)) (by decide) rfl rfl (Nat.le_of_ble_eq_true rfl) (lv := [(0, .ref (ad 0)), (1, .int p1), (2, .int p2), (3, .int p3)]) rfl (fun C => ?_)
  have iX7 : ∀ w ∈ wsX70, w ∈ wsX7_sheet := fun w h => List.mem_cons_of_mem _ (List.mem_append_right _ (inlX7 w h))
  rw [pX7_sheet]
  refine g_iload_n C 0 1 dX7_sheet_0 rfl ?_
  refine g_i2l C 1 dX7_sheet_1 ?_
  refine g_lconst C 2 0 dX7_sheet_2 rfl ?_
  refine g_ldc2 C 3 3 (by decide +kernel) dX7_sheet_3 ?_
  refine g_callSi (st := []) (As := [.long (Int32.toInt64 p1), .long 0, .long 3]) C E0_ok E0_vm 6 3 (tX7_in F (Int32.toInt64 p1) 0 3 u) rfl gX7_sheet_X7_in rfl rfl rfl (by decide +kernel) ⟨Nat.le_of_ble_eq_true rfl, Nat.le_of_ble_eq_true rfl⟩ rfl (Nat.le_of_ble_eq_true rfl) dX7_sheet_6 (fun r2 u1 => ?_)
  refine g_if_eq C 9 30 dX7_sheet_9 (by decide) ?_ ?_
  · skip
    refine g_iconst C 30 (-1) dX7_sheet_30 rfl ?_
    exact g_iret C 31 dX7_sheet_31
  · skip
    refine g_iload_n C 12 2 dX7_sheet_12 rfl ?_
    refine g_i2l C 13 dX7_sheet_13 ?_
    refine g_lconst C 14 0 dX7_sheet_14 rfl ?_
    refine g_ldc2 C 15 2 (by decide +kernel) dX7_sheet_15 ?_
    refine g_callSi (st := []) (As := [.long (Int32.toInt64 p2), .long 0, .long 2]) C E0_ok E0_vm 18 3 (tX7_in F (Int32.toInt64 p2) 0 2 u1) rfl gX7_sheet_X7_in rfl rfl rfl (by decide +kernel) ⟨Nat.le_of_ble_eq_true rfl, Nat.le_of_ble_eq_true rfl⟩ rfl (Nat.le_of_ble_eq_true rfl) dX7_sheet_18 (fun r4 u3 => ?_)
    refine g_if_eq C 21 30 dX7_sheet_21 (by decide) ?_ ?_
    · skip
      refine g_iconst C 30 (-1) dX7_sheet_30 rfl ?_
      exact g_iret C 31 dX7_sheet_31
    · skip
      refine g_iload_n C 24 3 dX7_sheet_24 rfl ?_
      refine g_bipush C 25 40 dX7_sheet_25 rfl ?_
      refine g_icmp_le C 27 32 dX7_sheet_27 (by decide) ?_ ?_
      · skip
        refine g_iload_n C 32 3 dX7_sheet_32 rfl ?_
        refine g_if_ge C 33 39 dX7_sheet_33 (by decide) ?_ ?_
        · skip
          refine g_aload_n C 39 0 dX7_sheet_39 rfl ?_
          refine gfM_X7_lanes C 40 iX7 (List.mem_cons_of_mem _ (List.mem_append_right _ wgL_6_0.1)) dX7_sheet_40 ?_
          refine g_iload_n C 43 1 dX7_sheet_43 rfl ?_
          refine g_iload_n C 44 2 dX7_sheet_44 rfl ?_
          refine g_iast C 45 (1 + 9) 0 9 (wM_arr 9 (by decide)) (wM_aset 9 (by decide)) rfl dX7_sheet_45 (fun u5 => ?_)
          refine g_aload_n C 46 0 dX7_sheet_46 rfl ?_
          refine gfM_X7_lengths C 47 iX7 (List.mem_cons_of_mem _ (List.mem_append_right _ wgL_6_1.1)) dX7_sheet_47 ?_
          refine g_iload_n C 50 1 dX7_sheet_50 rfl ?_
          refine g_iload_n C 51 3 dX7_sheet_51 rfl ?_
          refine g_iast C 52 (1 + 10) 0 10 (wM_arr 10 (by decide)) (wM_aset 10 (by decide)) rfl dX7_sheet_52 (fun u6 => ?_)
          refine g_iconst C 53 0 dX7_sheet_53 rfl ?_
          refine g_istore C 54 [(4, .int 0), (0, .ref (ad 0)), (1, .int p1), (2, .int p2), (3, .int p3)] dX7_sheet_54 (by decide) rfl ?_
          refine g_sub _ [1, 2, 0] rfl ?_
          refine g_lq1 (fun (x7 : Int32) => [(0, .ref (ad 0)), (1, .int p1), (4, .int x7)]) (fun self9 hself9 x7 u8 => ?_) F 0 u6
          rw [bX7_sheet_56]
          refine g_iload C 56 2 dX7_sheet_56 rfl ?_
          refine g_bipush C 58 40 dX7_sheet_58 rfl ?_
          refine g_icmp_ge C 60 82 dX7_sheet_60 (by decide) ?_ ?_
          · skip
            refine g_iconst C 82 1 dX7_sheet_82 rfl ?_
            exact g_iret C 83 dX7_sheet_83
          · skip
            refine g_aload_n C 63 0 dX7_sheet_63 rfl ?_
            refine gfM_X7_cells C 64 iX7 (List.mem_cons_of_mem _ (List.mem_append_right _ wgL_6_2.1)) dX7_sheet_64 ?_
            refine g_bipush C 67 40 dX7_sheet_67 rfl ?_
            refine g_iload_n C 69 1 dX7_sheet_69 rfl ?_
            refine g_imul C 70 dX7_sheet_70 ?_
            refine g_iload C 71 2 dX7_sheet_71 rfl ?_
            refine g_iadd C 73 dX7_sheet_73 ?_
            refine g_iconst C 74 0 dX7_sheet_74 rfl ?_
            refine g_iast C 75 (1 + 11) 0 11 (wM_arr 11 (by decide)) (wM_aset 11 (by decide)) rfl dX7_sheet_75 (fun u10 => ?_)
            refine g_iinc C 76 2 [(4, .int (x7 + 1)), (0, .ref (ad 0)), (1, .int p1)] dX7_sheet_76 rfl rfl (by decide) rfl ?_
            refine g_goto C 79 56 dX7_sheet_79 (by decide) ?_
            exact g_sub _ [1, 2, 0] rfl (hself9 (x7 + 1) u10)
        · skip
          refine g_bipush C 36 (-14) dX7_sheet_36 rfl ?_
          exact g_iret C 38 dX7_sheet_38
      · skip
        refine g_iconst C 30 (-1) dX7_sheet_30 rfl ?_
        exact g_iret C 31 dX7_sheet_31
def pX7_lay (F : Nat) (p1 : Int32) (p2 : Int32) (p3 : Int32) (u : St) : Option (Int32 × St) :=
  bd (pX7_in F (Int32.toInt64 p1) 0 3 u) (fun (r2 : Int32) (u1 : St) => if r2 = 0 then some ((-1), u1) else gd (inb p1 4) (if (u1.2 9 (Int32.toNatClampNeg p1)) = (-4) then some ((-11), u1) else gd (inb p1 4) (bd (pX7_in F (Int32.toInt64 p2) 0 (Int32.toInt64 ((u1.2 10 (Int32.toNatClampNeg p1)) - 1)) u1) (fun (r4 : Int32) (u3 : St) => if r4 = 0 then some ((-12), u3) else gd (inb p1 4) (jn (fun (a5 : Int32) (u6 : St) => gd (inb ((40 * p1) + p2) 160) (vl (sta u6 11 ((40 * p1) + p2) a5) (fun (u7 : St) => some (1, u7)))) (fun (J99 : Int32 → St → Option (Int32 × St)) => if (u3.2 9 (Int32.toNatClampNeg p1)) = 0 then (J99 ((p3 <<< (24 &&& 31)) >>> (24 &&& 31)) u3) else gd (inb p1 4) (if (u3.2 9 (Int32.toNatClampNeg p1)) = 1 then (J99 ((p3 <<< (16 &&& 31)) >>> (16 &&& 31)) u3) else (J99 p3 u3))))))))
set_option maxRecDepth 100000 in
set_option maxHeartbeats 4000000 in
theorem tX7_lay {l : Launch} {D : va_G} {cI cZ : ClassId} {ad : Nat → Nat} (F : Nat) (p1 : Int32) (p2 : Int32) (p3 : Int32) (u : St) : CtI l D [(cI, .int), (cZ, .boolean)] (wM ad cI cZ) E0 yX7_lay wsX7_lay ({ frames := 1, cells := 0, slots := 0, locals := 25 } : Room) [.ref (ad 0), .int p1, .int p2, .int p3] u (pX7_lay F p1 p2 p3 u) := by
  refine ctI_of (own := RX7) (cc := cX7_lay) (n := 4) (ret := (some .int)) (by decide) rfl rfl (Nat.le_of_ble_eq_true rfl) (lv := [(0, .ref (ad 0)), (1, .int p1), (2, .int p2), (3, .int p3)]) rfl (fun C => ?_)
  have iX7 : ∀ w ∈ wsX70, w ∈ wsX7_lay := fun w h => List.mem_cons_of_mem _ (List.mem_append_right _ (inlX7 w h))
  rw [pX7_lay]
  refine g_iload_n C 0 1 dX7_lay_0 rfl ?_
  refine g_i2l C 1 dX7_lay_1 ?_
  refine g_lconst C 2 0 dX7_lay_2 rfl ?_
  refine g_ldc2 C 3 3 (by decide +kernel) dX7_lay_3 ?_
  refine g_callSi (st := []) (As := [.long (Int32.toInt64 p1), .long 0, .long 3]) C E0_ok E0_vm 6 3 (tX7_in F (Int32.toInt64 p1) 0 3 u) rfl gX7_lay_X7_in rfl rfl rfl (by decide +kernel) ⟨Nat.le_of_ble_eq_true rfl, Nat.le_of_ble_eq_true rfl⟩ rfl (Nat.le_of_ble_eq_true rfl) dX7_lay_6 (fun r2 u1 => ?_)
  refine g_if_ne C 9 14 dX7_lay_9 (by decide) ?_ ?_
  · skip
    refine g_aload_n C 14 0 dX7_lay_14 rfl ?_
    refine gfM_X7_lanes C 15 iX7 (List.mem_cons_of_mem _ (List.mem_append_right _ wgL_6_0.1)) dX7_lay_15 ?_
    refine g_iload_n C 18 1 dX7_lay_18 rfl ?_
    refine g_iald C 19 (1 + 9) 0 (wM_arr 9 (by decide)) rfl dX7_lay_19 ?_
    refine g_bipush C 20 (-4) dX7_lay_20 rfl ?_
    refine g_icmp_ne C 22 28 dX7_lay_22 (by decide) ?_ ?_
    · skip
      refine g_iload_n C 28 2 dX7_lay_28 rfl ?_
      refine g_i2l C 29 dX7_lay_29 ?_
      refine g_lconst C 30 0 dX7_lay_30 rfl ?_
      refine g_aload_n C 31 0 dX7_lay_31 rfl ?_
      refine gfM_X7_lengths C 32 iX7 (List.mem_cons_of_mem _ (List.mem_append_right _ wgL_6_1.1)) dX7_lay_32 ?_
      refine g_iload_n C 35 1 dX7_lay_35 rfl ?_
      refine g_iald C 36 (1 + 10) 0 (wM_arr 10 (by decide)) rfl dX7_lay_36 ?_
      refine g_iconst C 37 1 dX7_lay_37 rfl ?_
      refine g_isub C 38 dX7_lay_38 ?_
      refine g_i2l C 39 dX7_lay_39 ?_
      refine g_callSi (st := []) (As := [.long (Int32.toInt64 p2), .long 0, .long (Int32.toInt64 ((u1.2 10 (Int32.toNatClampNeg p1)) - 1))]) C E0_ok E0_vm 40 3 (tX7_in F (Int32.toInt64 p2) 0 (Int32.toInt64 ((u1.2 10 (Int32.toNatClampNeg p1)) - 1)) u1) rfl gX7_lay_X7_in rfl rfl rfl (by decide +kernel) ⟨Nat.le_of_ble_eq_true rfl, Nat.le_of_ble_eq_true rfl⟩ rfl (Nat.le_of_ble_eq_true rfl) dX7_lay_40 (fun r4 u3 => ?_)
      refine g_if_ne C 43 49 dX7_lay_43 (by decide) ?_ ?_
      · skip
        refine g_aload_n C 49 0 dX7_lay_49 rfl ?_
        refine gfM_X7_cells C 50 iX7 (List.mem_cons_of_mem _ (List.mem_append_right _ wgL_6_2.1)) dX7_lay_50 ?_
        refine g_bipush C 53 40 dX7_lay_53 rfl ?_
        refine g_iload_n C 55 1 dX7_lay_55 rfl ?_
        refine g_imul C 56 dX7_lay_56 ?_
        refine g_iload_n C 57 2 dX7_lay_57 rfl ?_
        refine g_iadd C 58 dX7_lay_58 ?_
        refine g_aload_n C 59 0 dX7_lay_59 rfl ?_
        refine gfM_X7_lanes C 60 iX7 (List.mem_cons_of_mem _ (List.mem_append_right _ wgL_6_0.1)) dX7_lay_60 ?_
        refine g_iload_n C 63 1 dX7_lay_63 rfl ?_
        refine g_iald C 64 (1 + 9) 0 (wM_arr 9 (by decide)) rfl dX7_lay_64 ?_
        refine g_jn1 99 (fun (a5 : Int32) => []) (fun (a5 : Int32) => [.int a5, .int ((40 * p1) + p2), .ref (ad (1 + 11))]) (fun a5 u6 => ?_) (fun J99 hJ99 => ?_)
        · skip
          refine g_iast C 99 (1 + 11) 0 11 (wM_arr 11 (by decide)) (wM_aset 11 (by decide)) rfl dX7_lay_99 (fun u7 => ?_)
          refine g_iconst C 100 1 dX7_lay_100 rfl ?_
          exact g_iret C 101 dX7_lay_101
        · skip
          refine g_if_ne C 65 78 dX7_lay_65 (by decide) ?_ ?_
          · skip
            refine g_aload_n C 78 0 dX7_lay_78 rfl ?_
            refine gfM_X7_lanes C 79 iX7 (List.mem_cons_of_mem _ (List.mem_append_right _ wgL_6_0.1)) dX7_lay_79 ?_
            refine g_iload_n C 82 1 dX7_lay_82 rfl ?_
            refine g_iald C 83 (1 + 9) 0 (wM_arr 9 (by decide)) rfl dX7_lay_83 ?_
            refine g_iconst C 84 1 dX7_lay_84 rfl ?_
            refine g_icmp_ne C 85 98 dX7_lay_85 (by decide) ?_ ?_
            · skip
              refine g_iload_n C 98 3 dX7_lay_98 rfl ?_
              exact g_sub _ [] rfl (hJ99 p3 u3)
            · skip
              refine g_iload_n C 88 3 dX7_lay_88 rfl ?_
              refine g_bipush C 89 16 dX7_lay_89 rfl ?_
              refine g_ishl C 91 dX7_lay_91 ?_
              refine g_bipush C 92 16 dX7_lay_92 rfl ?_
              refine g_ishr C 94 dX7_lay_94 ?_
              refine g_goto C 95 99 dX7_lay_95 (by decide) ?_
              exact g_sub _ [] rfl (hJ99 ((p3 <<< (16 &&& 31)) >>> (16 &&& 31)) u3)
          · skip
            refine g_iload_n C 68 3 dX7_lay_68 rfl ?_
            refine g_bipush C 69 24 dX7_lay_69 rfl ?_
            refine g_ishl C 71 dX7_lay_71 ?_
            refine g_bipush C 72 24 dX7_lay_72 rfl ?_
            refine g_ishr C 74 dX7_lay_74 ?_
            refine g_goto C 75 99 dX7_lay_75 (by decide) ?_
            exact g_sub _ [] rfl (hJ99 ((p3 <<< (24 &&& 31)) >>> (24 &&& 31)) u3)
      · skip
        refine g_bipush C 46 (-12) dX7_lay_46 rfl ?_
        exact g_iret C 48 dX7_lay_48
    · skip
      refine g_bipush C 25 (-11) dX7_lay_25 rfl ?_
      exact g_iret C 27 dX7_lay_27
  · skip
    refine g_iconst C 12 (-1) dX7_lay_12 rfl ?_
    exact g_iret C 13 dX7_lay_13
def jX7_read_198 (F : Nat)  (a8 : Int32) (a9 : Int32) (u10 : St) : Option (Int32 × St) :=
  vl (stf u10 22 a8) (fun (u11 : St) => some (a9, u11))
def jX7_read_175 (F : Nat)  (a12 : Int32) (u13 : St) : Option (Int32 × St) :=
  bd (pX7_copies F 204 0 u13) (fun (_ : Unit) (u14 : St) => some (((-20) - a12), u14))
def bX7_read_56 (F : Nat) (p1 : Int32) (p2 : Int32) (p3 : Int32) (p4 : Int32) (J198 : Int32 → Int32 → St → Option (Int32 × St)) (J175 : Int32 → St → Option (Int32 × St)) (self19 : Int32 → Int32 → Int32 → St → Option (Int32 × St)) (x15 : Int32) (x16 : Int32) (x17 : Int32) (u18 : St) : Option (Int32 × St) :=
  if (2 * p4) ≤ x17 then (J198 x15 x16 u18) else if x15 = 0 then gd (inb p1 4) (jn (fun (a20 : Int32) (u21 : St) => jn (fun (a22 : Int32) (u23 : St) => (self19 a20 a22 (x17 + 1) u23)) (fun (J192 : Int32 → St → Option (Int32 × St)) => if a20 = 0 then gd (nz 2) (if (irm x17 2) = 1 then vl (((40 * p1) + p3) + x17) (fun v24 => gd (inb (v24 - 1) 160) (gd (inb v24 160) (bd (pX7_hears F (u21.2 11 (Int32.toNatClampNeg (v24 - 1))) (u21.2 11 (Int32.toNatClampNeg v24)) u21) (fun (r26 : Int32) (u25 : St) => if 0 ≤ r26 then (J192 (x16 + 1) u25) else (J175 x16 u25))))) else (J192 x16 u21)) else (J192 x16 u21))) (fun (J126 : Int32 → St → Option (Int32 × St)) => if (u18.2 9 (Int32.toNatClampNeg p1)) = (-4) then (J126 1 u18) else gd (inb p1 4) (if (u18.2 9 (Int32.toNatClampNeg p1)) = p2 then gd (inb p1 4) (bd (pX7_in F ((Int32.toInt64 p3) + (Int32.toInt64 x17)) 0 (Int32.toInt64 ((u18.2 10 (Int32.toNatClampNeg p1)) - 1)) u18) (fun (r28 : Int32) (u27 : St) => if r28 = 0 then (J126 2 u27) else (J126 0 u27))) else (J126 3 u18)))) else (J198 x15 x16 u18)
def pX7_read (F : Nat) (p1 : Int32) (p2 : Int32) (p3 : Int32) (p4 : Int32) (u : St) : Option (Int32 × St) :=
  bd (pX7_in F (Int32.toInt64 p1) 0 3 u) (fun (r2 : Int32) (u1 : St) => if r2 = 0 then some ((-1), u1) else bd (pX7_in F (Int32.toInt64 p2) 0 2 u1) (fun (r4 : Int32) (u3 : St) => if r4 = 0 then some ((-1), u3) else bd (pX7_in F (Int32.toInt64 p4) 0 20 u3) (fun (r6 : Int32) (u5 : St) => if r6 = 0 then some ((-1), u5) else bd (pX7_copies F 0 204 u5) (fun (_ : Unit) (u7 : St) => jn (jX7_read_198 F) (fun (J198 : Int32 → Int32 → St → Option (Int32 × St)) => jn (jX7_read_175 F) (fun (J175 : Int32 → St → Option (Int32 × St)) => (lq3 (bX7_read_56 F p1 p2 p3 p4 J198 J175) F 0 0 0 u7)))))))
set_option maxRecDepth 100000 in
set_option maxHeartbeats 4000000 in
theorem tX7_read {l : Launch} {D : va_G} {cI cZ : ClassId} {ad : Nat → Nat} (F : Nat) (p1 : Int32) (p2 : Int32) (p3 : Int32) (p4 : Int32) (u : St) : CtI l D [(cI, .int), (cZ, .boolean)] (wM ad cI cZ) E0 yX7_read wsX7_read ({ frames := 5, cells := 0, slots := 0, locals := 121 } : Room) [.ref (ad 0), .int p1, .int p2, .int p3, .int p4] u (pX7_read F p1 p2 p3 p4 u) := by
  refine ctI_of (own := RX7) (cc := cX7_read) (n := 9) (ret := (some .int)) (by decide) rfl rfl (Nat.le_of_ble_eq_true rfl) (lv := [(0, .ref (ad 0)), (1, .int p1), (2, .int p2), (3, .int p3), (4, .int p4)]) rfl (fun C => ?_)
  have iX7 : ∀ w ∈ wsX70, w ∈ wsX7_read := fun w h => List.mem_cons_of_mem _ (List.mem_append_right _ (inlX7 w h))
  rw [pX7_read]
  refine g_iload_n C 0 1 dX7_read_0 rfl ?_
  refine g_i2l C 1 dX7_read_1 ?_
  refine g_lconst C 2 0 dX7_read_2 rfl ?_
  refine g_ldc2 C 3 3 (by decide +kernel) dX7_read_3 ?_
  refine g_callSi (st := []) (As := [.long (Int32.toInt64 p1), .long 0, .long 3]) C E0_ok E0_vm 6 3 (tX7_in F (Int32.toInt64 p1) 0 3 u) rfl gX7_read_X7_in rfl rfl rfl (by decide +kernel) ⟨Nat.le_of_ble_eq_true rfl, Nat.le_of_ble_eq_true rfl⟩ rfl (Nat.le_of_ble_eq_true rfl) dX7_read_6 (fun r2 u1 => ?_)
  refine g_if_eq C 9 37 dX7_read_9 (by decide) ?_ ?_
  · skip
    refine g_iconst C 37 (-1) dX7_read_37 rfl ?_
    exact g_iret C 38 dX7_read_38
  · skip
    refine g_iload_n C 12 2 dX7_read_12 rfl ?_
    refine g_i2l C 13 dX7_read_13 ?_
    refine g_lconst C 14 0 dX7_read_14 rfl ?_
    refine g_ldc2 C 15 2 (by decide +kernel) dX7_read_15 ?_
    refine g_callSi (st := []) (As := [.long (Int32.toInt64 p2), .long 0, .long 2]) C E0_ok E0_vm 18 3 (tX7_in F (Int32.toInt64 p2) 0 2 u1) rfl gX7_read_X7_in rfl rfl rfl (by decide +kernel) ⟨Nat.le_of_ble_eq_true rfl, Nat.le_of_ble_eq_true rfl⟩ rfl (Nat.le_of_ble_eq_true rfl) dX7_read_18 (fun r4 u3 => ?_)
    refine g_if_eq C 21 37 dX7_read_21 (by decide) ?_ ?_
    · skip
      refine g_iconst C 37 (-1) dX7_read_37 rfl ?_
      exact g_iret C 38 dX7_read_38
    · skip
      refine g_iload C 24 4 dX7_read_24 rfl ?_
      refine g_i2l C 26 dX7_read_26 ?_
      refine g_lconst C 27 0 dX7_read_27 rfl ?_
      refine g_ldc2 C 28 20 (by decide +kernel) dX7_read_28 ?_
      refine g_callSi (st := []) (As := [.long (Int32.toInt64 p4), .long 0, .long 20]) C E0_ok E0_vm 31 3 (tX7_in F (Int32.toInt64 p4) 0 20 u3) rfl gX7_read_X7_in rfl rfl rfl (by decide +kernel) ⟨Nat.le_of_ble_eq_true rfl, Nat.le_of_ble_eq_true rfl⟩ rfl (Nat.le_of_ble_eq_true rfl) dX7_read_31 (fun r6 u5 => ?_)
      refine g_if_ne C 34 39 dX7_read_34 (by decide) ?_ ?_
      · skip
        refine g_aload_n C 39 0 dX7_read_39 rfl ?_
        refine g_iconst C 40 0 dX7_read_40 rfl ?_
        refine g_sipush C 41 204 dX7_read_41 rfl ?_
        refine g_callVv (st := []) (As := [.int 0, .int 204]) C E0_ok E0_vm 44 0 2 (tX7_copies F 0 204 u5) rfl gX7_read_X7_copies rfl rfl rfl (by decide +kernel) ⟨Nat.le_of_ble_eq_true rfl, Nat.le_of_ble_eq_true rfl⟩ rfl rfl rfl (Nat.le_of_ble_eq_true rfl) dX7_read_44 (fun u7 => ?_)
        refine g_iconst C 47 0 dX7_read_47 rfl ?_
        refine g_istore C 48 [(5, .int 0), (0, .ref (ad 0)), (1, .int p1), (2, .int p2), (3, .int p3), (4, .int p4)] dX7_read_48 (by decide) rfl ?_
        refine g_iconst C 50 0 dX7_read_50 rfl ?_
        refine g_istore C 51 [(6, .int 0), (5, .int 0), (0, .ref (ad 0)), (1, .int p1), (2, .int p2), (3, .int p3), (4, .int p4)] dX7_read_51 (by decide) rfl ?_
        refine g_iconst C 53 0 dX7_read_53 rfl ?_
        refine g_istore C 54 [(7, .int 0), (6, .int 0), (5, .int 0), (0, .ref (ad 0)), (1, .int p1), (2, .int p2), (3, .int p3), (4, .int p4)] dX7_read_54 (by decide) rfl ?_
        refine g_jn2 198 (fun (a8 : Int32) (a9 : Int32) => [(0, .ref (ad 0)), (5, .int a8), (6, .int a9)]) (fun (a8 : Int32) (a9 : Int32) => []) (fun a8 a9 u10 => ?_) (fun J198 hJ198 => ?_)
        · skip
          rw [jX7_read_198]
          refine g_aload_n C 198 0 dX7_read_198 rfl ?_
          refine g_iload C 199 1 dX7_read_199 rfl ?_
          refine pfM_X7_torn C 201 iX7 (List.mem_cons_of_mem _ (List.mem_append_right _ wgL_46_0.1)) dX7_read_201 (fun u11 => ?_)
          refine g_iload C 204 2 dX7_read_204 rfl ?_
          exact g_iret C 206 dX7_read_206
        · skip
          refine g_jn1 175 (fun (a12 : Int32) => [(0, .ref (ad 0)), (6, .int a12)]) (fun (a12 : Int32) => []) (fun a12 u13 => ?_) (fun J175 hJ175 => ?_)
          · skip
            rw [jX7_read_175]
            refine g_aload_n C 175 0 dX7_read_175 rfl ?_
            refine g_sipush C 176 204 dX7_read_176 rfl ?_
            refine g_iconst C 179 0 dX7_read_179 rfl ?_
            refine g_callVv (st := []) (As := [.int 204, .int 0]) C E0_ok E0_vm 180 0 2 (tX7_copies F 204 0 u13) rfl gX7_read_X7_copies rfl rfl rfl (by decide +kernel) ⟨Nat.le_of_ble_eq_true rfl, Nat.le_of_ble_eq_true rfl⟩ rfl rfl rfl (Nat.le_of_ble_eq_true rfl) dX7_read_180 (fun u14 => ?_)
            refine g_bipush C 183 (-20) dX7_read_183 rfl ?_
            refine g_iload C 185 1 dX7_read_185 rfl ?_
            refine g_isub C 187 dX7_read_187 ?_
            exact g_iret C 188 dX7_read_188
          · skip
            refine g_sub _ [3, 4, 5, 6, 7, 2, 1, 0] rfl ?_
            refine g_lq3 (fun (x15 : Int32) (x16 : Int32) (x17 : Int32) => [(0, .ref (ad 0)), (1, .int p1), (2, .int p2), (3, .int p3), (4, .int p4), (5, .int x15), (6, .int x16), (7, .int x17)]) (fun self19 hself19 x15 x16 x17 u18 => ?_) F 0 0 0 u7
            rw [bX7_read_56]
            refine g_iload C 56 7 dX7_read_56 rfl ?_
            refine g_iconst C 58 2 dX7_read_58 rfl ?_
            refine g_iload C 59 4 dX7_read_59 rfl ?_
            refine g_imul C 61 dX7_read_61 ?_
            refine g_icmp_ge C 62 198 dX7_read_62 (by decide) ?_ ?_
            · skip
              exact g_sub _ [0, 5, 6] rfl (hJ198 x15 x16 u18)
            · skip
              refine g_iload C 65 5 dX7_read_65 rfl ?_
              refine g_if_ne C 67 198 dX7_read_67 (by decide) ?_ ?_
              · skip
                exact g_sub _ [0, 5, 6] rfl (hJ198 x15 x16 u18)
              · skip
                refine g_aload_n C 70 0 dX7_read_70 rfl ?_
                refine gfM_X7_lanes C 71 iX7 (List.mem_cons_of_mem _ (List.mem_append_right _ wgL_6_0.1)) dX7_read_71 ?_
                refine g_iload_n C 74 1 dX7_read_74 rfl ?_
                refine g_iald C 75 (1 + 9) 0 (wM_arr 9 (by decide)) rfl dX7_read_75 ?_
                refine g_bipush C 76 (-4) dX7_read_76 rfl ?_
                refine g_jn1 126 (fun (a20 : Int32) => [(0, .ref (ad 0)), (1, .int p1), (2, .int p2), (3, .int p3), (4, .int p4), (6, .int x16), (7, .int x17)]) (fun (a20 : Int32) => [.int a20]) (fun a20 u21 => ?_) (fun J126 hJ126 => ?_)
                · skip
                  refine g_istore C 126 [(5, .int a20), (0, .ref (ad 0)), (1, .int p1), (2, .int p2), (3, .int p3), (4, .int p4), (6, .int x16), (7, .int x17)] dX7_read_126 (by decide) rfl ?_
                  refine g_iload C 128 0 dX7_read_128 rfl ?_
                  refine g_jn1 192 (fun (a22 : Int32) => [(0, .ref (ad 0)), (1, .int p1), (2, .int p2), (3, .int p3), (4, .int p4), (5, .int a20), (6, .int a22), (7, .int x17)]) (fun (a22 : Int32) => []) (fun a22 u23 => ?_) (fun J192 hJ192 => ?_)
                  · skip
                    refine g_iinc C 192 7 [(7, .int (x17 + 1)), (0, .ref (ad 0)), (1, .int p1), (2, .int p2), (3, .int p3), (4, .int p4), (5, .int a20), (6, .int a22)] dX7_read_192 rfl rfl (by decide) rfl ?_
                    refine g_goto C 195 56 dX7_read_195 (by decide) ?_
                    exact g_sub _ [1, 2, 3, 4, 5, 6, 7, 0] rfl (hself19 a20 a22 (x17 + 1) u23)
                  · skip
                    refine g_if_ne C 130 192 dX7_read_130 (by decide) ?_ ?_
                    · skip
                      exact g_sub _ [1, 2, 3, 4, 5, 0, 6, 7] rfl (hJ192 x16 u21)
                    · skip
                      refine g_iload C 133 7 dX7_read_133 rfl ?_
                      refine g_iconst C 135 2 dX7_read_135 rfl ?_
                      refine g_irem C 136 dX7_read_136 ?_
                      refine g_iconst C 137 1 dX7_read_137 rfl ?_
                      refine g_icmp_ne C 138 192 dX7_read_138 (by decide) ?_ ?_
                      · skip
                        exact g_sub _ [1, 2, 3, 4, 5, 0, 6, 7] rfl (hJ192 x16 u21)
                      · skip
                        refine g_bipush C 141 40 dX7_read_141 rfl ?_
                        refine g_iload_n C 143 2 dX7_read_143 rfl ?_
                        refine g_imul C 144 dX7_read_144 ?_
                        refine g_iload_n C 145 4 dX7_read_145 rfl ?_
                        refine g_iadd C 146 dX7_read_146 ?_
                        refine g_iload C 147 7 dX7_read_147 rfl ?_
                        refine g_iadd C 149 dX7_read_149 ?_
                        refine g_istoreV C 150 (fun v24 => [(8, .int v24), (5, .int a20), (0, .ref (ad 0)), (1, .int p1), (2, .int p2), (3, .int p3), (4, .int p4), (6, .int x16), (7, .int x17)]) dX7_read_150 (by decide) (fun _ => rfl) (fun v24 => ?_)
                        refine g_aload_n C 152 2 dX7_read_152 rfl ?_
                        refine g_aload_n C 153 2 dX7_read_153 rfl ?_
                        refine gfM_X7_cells C 154 iX7 (List.mem_cons_of_mem _ (List.mem_append_right _ wgL_6_2.1)) dX7_read_154 ?_
                        refine g_iload C 157 0 dX7_read_157 rfl ?_
                        refine g_iconst C 159 1 dX7_read_159 rfl ?_
                        refine g_isub C 160 dX7_read_160 ?_
                        refine g_iald C 161 (1 + 11) 0 (wM_arr 11 (by decide)) rfl dX7_read_161 ?_
                        refine g_aload_n C 162 2 dX7_read_162 rfl ?_
                        refine gfM_X7_cells C 163 iX7 (List.mem_cons_of_mem _ (List.mem_append_right _ wgL_6_2.1)) dX7_read_163 ?_
                        refine g_iload C 166 0 dX7_read_166 rfl ?_
                        refine g_iald C 168 (1 + 11) 0 (wM_arr 11 (by decide)) rfl dX7_read_168 ?_
                        refine g_callVi (st := []) (As := [.int (u21.2 11 (Int32.toNatClampNeg (v24 - 1))), .int (u21.2 11 (Int32.toNatClampNeg v24))]) C E0_ok E0_vm 169 0 2 (tX7_hears F (u21.2 11 (Int32.toNatClampNeg (v24 - 1))) (u21.2 11 (Int32.toNatClampNeg v24)) u21) rfl gX7_read_X7_hears rfl rfl rfl (by decide +kernel) ⟨Nat.le_of_ble_eq_true rfl, Nat.le_of_ble_eq_true rfl⟩ rfl rfl rfl (Nat.le_of_ble_eq_true rfl) dX7_read_169 (fun r26 u25 => ?_)
                        refine g_if_ge C 172 189 dX7_read_172 (by decide) ?_ ?_
                        · skip
                          refine g_iinc C 189 7 [(6, .int (x16 + 1)), (8, .int v24), (5, .int a20), (0, .ref (ad 0)), (1, .int p1), (2, .int p2), (3, .int p3), (4, .int p4), (7, .int x17)] dX7_read_189 rfl rfl (by decide) rfl ?_
                          exact g_sub _ [3, 4, 5, 6, 7, 2, 0, 8] rfl (hJ192 (x16 + 1) u25)
                        · skip
                          exact g_sub _ [2, 7] rfl (hJ175 x16 u25)
                · skip
                  refine g_icmp_ne C 78 85 dX7_read_78 (by decide) ?_ ?_
                  · skip
                    refine g_aload_n C 85 0 dX7_read_85 rfl ?_
                    refine gfM_X7_lanes C 86 iX7 (List.mem_cons_of_mem _ (List.mem_append_right _ wgL_6_0.1)) dX7_read_86 ?_
                    refine g_iload_n C 89 1 dX7_read_89 rfl ?_
                    refine g_iald C 90 (1 + 9) 0 (wM_arr 9 (by decide)) rfl dX7_read_90 ?_
                    refine g_iload_n C 91 2 dX7_read_91 rfl ?_
                    refine g_icmp_eq C 92 99 dX7_read_92 (by decide) ?_ ?_
                    · skip
                      refine g_iload_n C 99 3 dX7_read_99 rfl ?_
                      refine g_i2l C 100 dX7_read_100 ?_
                      refine g_iload C 101 7 dX7_read_101 rfl ?_
                      refine g_i2l C 103 dX7_read_103 ?_
                      refine g_ladd C 104 dX7_read_104 ?_
                      refine g_lconst C 105 0 dX7_read_105 rfl ?_
                      refine g_aload_n C 106 0 dX7_read_106 rfl ?_
                      refine gfM_X7_lengths C 107 iX7 (List.mem_cons_of_mem _ (List.mem_append_right _ wgL_6_1.1)) dX7_read_107 ?_
                      refine g_iload_n C 110 1 dX7_read_110 rfl ?_
                      refine g_iald C 111 (1 + 10) 0 (wM_arr 10 (by decide)) rfl dX7_read_111 ?_
                      refine g_iconst C 112 1 dX7_read_112 rfl ?_
                      refine g_isub C 113 dX7_read_113 ?_
                      refine g_i2l C 114 dX7_read_114 ?_
                      refine g_callSi (st := []) (As := [.long ((Int32.toInt64 p3) + (Int32.toInt64 x17)), .long 0, .long (Int32.toInt64 ((u18.2 10 (Int32.toNatClampNeg p1)) - 1))]) C E0_ok E0_vm 115 3 (tX7_in F ((Int32.toInt64 p3) + (Int32.toInt64 x17)) 0 (Int32.toInt64 ((u18.2 10 (Int32.toNatClampNeg p1)) - 1)) u18) rfl gX7_read_X7_in rfl rfl rfl (by decide +kernel) ⟨Nat.le_of_ble_eq_true rfl, Nat.le_of_ble_eq_true rfl⟩ rfl (Nat.le_of_ble_eq_true rfl) dX7_read_115 (fun r28 u27 => ?_)
                      refine g_if_ne C 118 125 dX7_read_118 (by decide) ?_ ?_
                      · skip
                        refine g_iconst C 125 0 dX7_read_125 rfl ?_
                        exact g_sub _ [0, 1, 2, 3, 4, 6, 7] rfl (hJ126 0 u27)
                      · skip
                        refine g_iconst C 121 2 dX7_read_121 rfl ?_
                        refine g_goto C 122 126 dX7_read_122 (by decide) ?_
                        exact g_sub _ [0, 1, 2, 3, 4, 6, 7] rfl (hJ126 2 u27)
                    · skip
                      refine g_iconst C 95 3 dX7_read_95 rfl ?_
                      refine g_goto C 96 126 dX7_read_96 (by decide) ?_
                      exact g_sub _ [0, 1, 2, 3, 4, 6, 7] rfl (hJ126 3 u18)
                  · skip
                    refine g_iconst C 81 1 dX7_read_81 rfl ?_
                    refine g_goto C 82 126 dX7_read_82 (by decide) ?_
                    exact g_sub _ [0, 1, 2, 3, 4, 6, 7] rfl (hJ126 1 u18)
      · skip
        refine g_iconst C 37 (-1) dX7_read_37 rfl ?_
        exact g_iret C 38 dX7_read_38
def pX7_torn (F : Nat)  (u : St) : Option (Int32 × St) :=
  some ((u.1 22), u)
set_option maxRecDepth 100000 in
set_option maxHeartbeats 4000000 in
theorem tX7_torn {l : Launch} {D : va_G} {cI cZ : ClassId} {ad : Nat → Nat} (F : Nat)  (u : St) : CtI l D [(cI, .int), (cZ, .boolean)] (wM ad cI cZ) E0 yX7_torn wsX7_torn ({ frames := 0, cells := 0, slots := 0, locals := 0 } : Room) [.ref (ad 0)] u (pX7_torn F u) := by
  refine ctI_of (own := RX7) (cc := cX7_torn) (n := 1) (ret := (some .int)) (by decide) rfl rfl (Nat.le_of_ble_eq_true rfl) (lv := [(0, .ref (ad 0))]) rfl (fun C => ?_)
  have iX7 : ∀ w ∈ wsX70, w ∈ wsX7_torn := fun w h => List.mem_cons_of_mem _ (List.mem_append_right _ (inlX7 w h))
  rw [pX7_torn]
  refine g_aload_n C 0 0 dX7_torn_0 rfl ?_
  refine gfM_X7_torn C 1 iX7 (List.mem_cons_of_mem _ (List.mem_append_right _ wgL_46_0.1)) dX7_torn_1 ?_
  exact g_iret C 4 dX7_torn_4
def jX7_count_65 (F : Nat) (p1 : Int32) (a1 : Int32) (a2 : Int32) (u3 : St) : Option (Int32 × St) :=
  if p1 = 0 then some ((u3.1 21), u3) else if p1 = 1 then gd (inb 0 2) (jn (fun (a4 : Int32) (u5 : St) => gd (inb 1 2) (if (u5.2 12 (Int32.toNatClampNeg 1)) = 0 then some ((a4 + 0), u5) else some ((a4 + 1), u5))) (fun (J123 : Int32 → St → Option (Int32 × St)) => if (u3.2 12 (Int32.toNatClampNeg 0)) = 0 then (J123 0 u3) else (J123 1 u3))) else if p1 = 2 then some ((u3.1 7), u3) else if p1 = 3 then gd (inb 0 4) (if (u3.2 9 (Int32.toNatClampNeg 0)) = (-4) then some ((-4), u3) else gd (inb 0 4) (some ((u3.2 10 (Int32.toNatClampNeg 0)), u3))) else if p1 = 4 then some (a1, u3) else if p1 = 5 then some (a2, u3) else some ((-1), u3)
def bX7_count_7 (F : Nat) (J65 : Int32 → Int32 → St → Option (Int32 × St)) (self10 : Int32 → Int32 → Int32 → St → Option (Int32 × St)) (x6 : Int32) (x7 : Int32) (x8 : Int32) (u9 : St) : Option (Int32 × St) :=
  if (u9.1 0) ≤ x8 then (J65 x6 x7 u9) else gd (inb (16 + (2 * x8)) 408) (gd (inb ((16 + (2 * x8)) + 1) 408) (vl (x6 + ((u9.2 0 (Int32.toNatClampNeg (16 + (2 * x8)))) + (u9.2 0 (Int32.toNatClampNeg ((16 + (2 * x8)) + 1))))) (fun v11 => gd (inb (28 + x8) 408) (vl (x7 + (u9.2 0 (Int32.toNatClampNeg (28 + x8)))) (fun v12 => (self10 v11 v12 (x8 + 1) u9))))))
def pX7_count (F : Nat) (p1 : Int32) (u : St) : Option (Int32 × St) :=
  jn (jX7_count_65 F p1) (fun (J65 : Int32 → Int32 → St → Option (Int32 × St)) => (lq3 (bX7_count_7 F J65) F 0 0 0 u))
set_option maxRecDepth 100000 in
set_option maxHeartbeats 4000000 in
theorem tX7_count {l : Launch} {D : va_G} {cI cZ : ClassId} {ad : Nat → Nat} (F : Nat) (p1 : Int32) (u : St) : CtI l D [(cI, .int), (cZ, .boolean)] (wM ad cI cZ) E0 yX7_count wsX7_count ({ frames := 0, cells := 0, slots := 0, locals := 0 } : Room) [.ref (ad 0), .int p1] u (pX7_count F p1 u) := by
  refine ctI_of (own := RX7) (cc := cX7_count) (n := 5) (ret := (some .int)) (by decide) rfl rfl (Nat.le_of_ble_eq_true rfl) (lv := [(0, .ref (ad 0)), (1, .int p1)]) rfl (fun C => ?_)
  have iX7 : ∀ w ∈ wsX70, w ∈ wsX7_count := fun w h => List.mem_cons_of_mem _ (List.mem_append_right _ (inlX7 w h))
  rw [pX7_count]
  refine g_iconst C 0 0 dX7_count_0 rfl ?_
  refine g_istore_n C 1 [(2, .int 0), (0, .ref (ad 0)), (1, .int p1)] dX7_count_1 (by decide) rfl ?_
  refine g_iconst C 2 0 dX7_count_2 rfl ?_
  refine g_istore_n C 3 [(3, .int 0), (2, .int 0), (0, .ref (ad 0)), (1, .int p1)] dX7_count_3 (by decide) rfl ?_
  refine g_iconst C 4 0 dX7_count_4 rfl ?_
  refine g_istore C 5 [(4, .int 0), (3, .int 0), (2, .int 0), (0, .ref (ad 0)), (1, .int p1)] dX7_count_5 (by decide) rfl ?_
  refine g_jn2 65 (fun (a1 : Int32) (a2 : Int32) => [(0, .ref (ad 0)), (1, .int p1), (2, .int a1), (3, .int a2)]) (fun (a1 : Int32) (a2 : Int32) => []) (fun a1 a2 u3 => ?_) (fun J65 hJ65 => ?_)
  · skip
    rw [jX7_count_65]
    refine g_iload_n C 65 1 dX7_count_65 rfl ?_
    refine g_tsw C 66 104 0 dX7_count_66 (by decide) rfl (by decide) ?_ (fun q0 => ?_)
    · skip
      refine g_aload_n C 104 0 dX7_count_104 rfl ?_
      refine gfM_X7_seenMany C 105 iX7 (List.mem_cons_of_mem _ (List.mem_append_right _ wgL_15_18.1)) dX7_count_105 ?_
      exact g_iret C 108 dX7_count_108
    refine g_tsw C 66 109 1 dX7_count_66 (by decide) rfl (by decide) ?_ (fun q1 => ?_)
    · skip
      refine g_aload_n C 109 0 dX7_count_109 rfl ?_
      refine gfM_X7_isKept C 110 iX7 (List.mem_cons_of_mem _ (List.mem_append_right _ wgL_5_23.1)) dX7_count_110 ?_
      refine g_iconst C 113 0 dX7_count_113 rfl ?_
      refine g_zald C 114 (1 + 12) 1 (wM_arrz 12 (by decide) (by decide)) rfl dX7_count_114 ?_
      refine g_jn1 123 (fun (a4 : Int32) => [(0, .ref (ad 0))]) (fun (a4 : Int32) => [.int a4]) (fun a4 u5 => ?_) (fun J123 hJ123 => ?_)
      · skip
        refine g_aload_n C 123 0 dX7_count_123 rfl ?_
        refine gfM_X7_isKept C 124 iX7 (List.mem_cons_of_mem _ (List.mem_append_right _ wgL_5_23.1)) dX7_count_124 ?_
        refine g_iconst C 127 1 dX7_count_127 rfl ?_
        refine g_zald C 128 (1 + 12) 1 (wM_arrz 12 (by decide) (by decide)) rfl dX7_count_128 ?_
        refine g_if_eq C 129 136 dX7_count_129 (by decide) ?_ ?_
        · skip
          refine g_iconst C 136 0 dX7_count_136 rfl ?_
          refine g_iadd C 137 dX7_count_137 ?_
          exact g_iret C 138 dX7_count_138
        · skip
          refine g_iconst C 132 1 dX7_count_132 rfl ?_
          refine g_goto C 133 137 dX7_count_133 (by decide) ?_
          refine g_iadd C 137 dX7_count_137 ?_
          exact g_iret C 138 dX7_count_138
      · skip
        refine g_if_eq C 115 122 dX7_count_115 (by decide) ?_ ?_
        · skip
          refine g_iconst C 122 0 dX7_count_122 rfl ?_
          exact g_sub _ [0] rfl (hJ123 0 u3)
        · skip
          refine g_iconst C 118 1 dX7_count_118 rfl ?_
          refine g_goto C 119 123 dX7_count_119 (by decide) ?_
          exact g_sub _ [0] rfl (hJ123 1 u3)
    refine g_tsw C 66 139 2 dX7_count_66 (by decide) rfl (by decide) ?_ (fun q2 => ?_)
    · skip
      refine g_aload_n C 139 0 dX7_count_139 rfl ?_
      refine gfM_X7_taped C 140 iX7 (List.mem_cons_of_mem _ (List.mem_append_right _ wgL_6_20.1)) dX7_count_140 ?_
      exact g_iret C 143 dX7_count_143
    refine g_tsw C 66 144 3 dX7_count_66 (by decide) rfl (by decide) ?_ (fun q3 => ?_)
    · skip
      refine g_aload_n C 144 0 dX7_count_144 rfl ?_
      refine gfM_X7_lanes C 145 iX7 (List.mem_cons_of_mem _ (List.mem_append_right _ wgL_6_0.1)) dX7_count_145 ?_
      refine g_iconst C 148 0 dX7_count_148 rfl ?_
      refine g_iald C 149 (1 + 9) 0 (wM_arr 9 (by decide)) rfl dX7_count_149 ?_
      refine g_bipush C 150 (-4) dX7_count_150 rfl ?_
      refine g_icmp_ne C 152 160 dX7_count_152 (by decide) ?_ ?_
      · skip
        refine g_aload_n C 160 0 dX7_count_160 rfl ?_
        refine gfM_X7_lengths C 161 iX7 (List.mem_cons_of_mem _ (List.mem_append_right _ wgL_6_1.1)) dX7_count_161 ?_
        refine g_iconst C 164 0 dX7_count_164 rfl ?_
        refine g_iald C 165 (1 + 10) 0 (wM_arr 10 (by decide)) rfl dX7_count_165 ?_
        exact g_iret C 166 dX7_count_166
      · skip
        refine g_bipush C 155 (-4) dX7_count_155 rfl ?_
        refine g_goto C 157 166 dX7_count_157 (by decide) ?_
        exact g_iret C 166 dX7_count_166
    refine g_tsw C 66 167 4 dX7_count_66 (by decide) rfl (by decide) ?_ (fun q4 => ?_)
    · skip
      refine g_iload_n C 167 2 dX7_count_167 rfl ?_
      exact g_iret C 168 dX7_count_168
    refine g_tsw C 66 169 5 dX7_count_66 (by decide) rfl (by decide) ?_ (fun q5 => ?_)
    · skip
      refine g_iload_n C 169 3 dX7_count_169 rfl ?_
      exact g_iret C 170 dX7_count_170
    refine g_tswD C 66 171 dX7_count_66 (by have r0 := lv_neT (a := 0) q0 rfl; have r1 := lv_neT (a := 1) q1 rfl; have r2 := lv_neT (a := 2) q2 rfl; have r3 := lv_neT (a := 3) q3 rfl; have r4 := lv_neT (a := 4) q4 rfl; have r5 := lv_neT (a := 5) q5 rfl; omega) (by decide) ?_
    refine g_iconst C 171 (-1) dX7_count_171 rfl ?_
    exact g_iret C 172 dX7_count_172
  · skip
    refine g_sub _ [3, 4, 2, 1, 0] rfl ?_
    refine g_lq3 (fun (x6 : Int32) (x7 : Int32) (x8 : Int32) => [(0, .ref (ad 0)), (1, .int p1), (2, .int x6), (3, .int x7), (4, .int x8)]) (fun self10 hself10 x6 x7 x8 u9 => ?_) F 0 0 0 u
    rw [bX7_count_7]
    refine g_iload C 7 4 dX7_count_7 rfl ?_
    refine g_aload_n C 9 0 dX7_count_9 rfl ?_
    refine gfM_X7_caseMany C 10 iX7 (List.mem_cons_of_mem _ (List.mem_append_right _ wgL_15_16.1)) dX7_count_10 ?_
    refine g_icmp_ge C 13 65 dX7_count_13 (by decide) ?_ ?_
    · skip
      exact g_sub _ [0, 1, 2, 3] rfl (hJ65 x6 x7 u9)
    · skip
      refine g_iload_n C 16 2 dX7_count_16 rfl ?_
      refine g_aload_n C 17 0 dX7_count_17 rfl ?_
      refine gfM_X7_state C 18 iX7 (List.mem_cons_of_mem _ (List.mem_append_right _ wgL_5_14.1)) dX7_count_18 ?_
      refine g_bipush C 21 16 dX7_count_21 rfl ?_
      refine g_iconst C 23 2 dX7_count_23 rfl ?_
      refine g_iload C 24 4 dX7_count_24 rfl ?_
      refine g_imul C 26 dX7_count_26 ?_
      refine g_iadd C 27 dX7_count_27 ?_
      refine g_iald C 28 (1 + 0) 0 (wM_arr 0 (by decide)) rfl dX7_count_28 ?_
      refine g_aload_n C 29 0 dX7_count_29 rfl ?_
      refine gfM_X7_state C 30 iX7 (List.mem_cons_of_mem _ (List.mem_append_right _ wgL_5_14.1)) dX7_count_30 ?_
      refine g_bipush C 33 16 dX7_count_33 rfl ?_
      refine g_iconst C 35 2 dX7_count_35 rfl ?_
      refine g_iload C 36 4 dX7_count_36 rfl ?_
      refine g_imul C 38 dX7_count_38 ?_
      refine g_iadd C 39 dX7_count_39 ?_
      refine g_iconst C 40 1 dX7_count_40 rfl ?_
      refine g_iadd C 41 dX7_count_41 ?_
      refine g_iald C 42 (1 + 0) 0 (wM_arr 0 (by decide)) rfl dX7_count_42 ?_
      refine g_iadd C 43 dX7_count_43 ?_
      refine g_iadd C 44 dX7_count_44 ?_
      refine g_istore_nV C 45 (fun v11 => [(2, .int v11), (0, .ref (ad 0)), (1, .int p1), (3, .int x7), (4, .int x8)]) dX7_count_45 (by decide) (fun _ => rfl) (fun v11 => ?_)
      refine g_iload_n C 46 3 dX7_count_46 rfl ?_
      refine g_aload_n C 47 1 dX7_count_47 rfl ?_
      refine gfM_X7_state C 48 iX7 (List.mem_cons_of_mem _ (List.mem_append_right _ wgL_5_14.1)) dX7_count_48 ?_
      refine g_bipush C 51 28 dX7_count_51 rfl ?_
      refine g_iload C 53 4 dX7_count_53 rfl ?_
      refine g_iadd C 55 dX7_count_55 ?_
      refine g_iald C 56 (1 + 0) 0 (wM_arr 0 (by decide)) rfl dX7_count_56 ?_
      refine g_iadd C 57 dX7_count_57 ?_
      refine g_istore_nV C 58 (fun v12 => [(3, .int v12), (2, .int v11), (0, .ref (ad 0)), (1, .int p1), (4, .int x8)]) dX7_count_58 (by decide) (fun _ => rfl) (fun v12 => ?_)
      refine g_iinc C 59 4 [(4, .int (x8 + 1)), (3, .int v12), (2, .int v11), (0, .ref (ad 0)), (1, .int p1)] dX7_count_59 rfl rfl (by decide) rfl ?_
      refine g_goto C 62 7 dX7_count_62 (by decide) ?_
      exact g_sub _ [3, 4, 2, 1, 0] rfl (hself10 v11 v12 (x8 + 1) u9)
