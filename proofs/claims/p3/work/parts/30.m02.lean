def pX7_puts (F : Nat) (p1 : Int32) (p2 : Int32) (p3 : Int32) (u : St) : Option (Int32 × St) :=
  if p1 = 0 then some ((-1), u) else gd (inb p2 408) (vl (u.2 0 (Int32.toNatClampNeg p2)) (fun v1 => gd (inb p2 408) (vl (sta u 0 p2 p3) (fun (u2 : St) => some (v1, u2)))))
set_option maxRecDepth 100000 in
set_option maxHeartbeats 4000000 in
theorem tX7_puts {l : Launch} {D : va_G} {cI cZ : ClassId} {ad : Nat → Nat} (F : Nat) (p1 : Int32) (p2 : Int32) (p3 : Int32) (u : St) : CtI l D [(cI, .int), (cZ, .boolean)] (wM ad cI cZ) E0 yX7_puts wsX7_puts ({ frames := 0, cells := 0, slots := 0, locals := 0 } : Room) [.ref (ad 0), .int p1, .int p2, .int p3] u (pX7_puts F p1 p2 p3 u) := by
  refine ctI_of (own := RX7) (cc := cX7_puts) (n := 5) (ret := (some .int)) (by decide) rfl rfl (Nat.le_of_ble_eq_true rfl) (lv := [(0, .ref (ad 0)), (1, .int p1), (2, .int p2), (3, .int p3)]) rfl (fun C => ?_)
  have iX7 : ∀ w ∈ wsX70, w ∈ wsX7_puts := fun w h => List.mem_cons_of_mem _ (List.mem_append_right _ (inlX7 w h))
  rw [pX7_puts]
  refine g_iload_n C 0 1 dX7_puts_0 rfl ?_
  refine g_if_ne C 1 6 dX7_puts_1 (by decide) ?_ ?_
  · skip
    refine g_aload_n C 6 0 dX7_puts_6 rfl ?_
    refine gfM_X7_state C 7 iX7 (List.mem_cons_of_mem _ (List.mem_append_right _ wgL_5_14.1)) dX7_puts_7 ?_
    refine g_iload_n C 10 2 dX7_puts_10 rfl ?_
    refine g_iald C 11 (1 + 0) 0 (wM_arr 0 (by decide)) rfl dX7_puts_11 ?_
    refine g_istoreV C 12 (fun v1 => [(4, .int v1), (0, .ref (ad 0)), (1, .int p1), (2, .int p2), (3, .int p3)]) dX7_puts_12 (by decide) (fun _ => rfl) (fun v1 => ?_)
    refine g_aload_n C 14 1 dX7_puts_14 rfl ?_
    refine gfM_X7_state C 15 iX7 (List.mem_cons_of_mem _ (List.mem_append_right _ wgL_5_14.1)) dX7_puts_15 ?_
    refine g_iload_n C 18 3 dX7_puts_18 rfl ?_
    refine g_iload_n C 19 4 dX7_puts_19 rfl ?_
    refine g_iast C 20 (1 + 0) 0 0 (wM_arr 0 (by decide)) (wM_aset 0 (by decide)) rfl dX7_puts_20 (fun u2 => ?_)
    refine g_iload C 21 0 dX7_puts_21 rfl ?_
    exact g_iret C 23 dX7_puts_23
  · skip
    refine g_iconst C 4 (-1) dX7_puts_4 rfl ?_
    exact g_iret C 5 dX7_puts_5
def pX7_trim (F : Nat) (p1 : Int32) (p2 : Int32) (p3 : Int32) (p4 : Int32) (u : St) : Option (Int32 × St) :=
  jn (fun (a1 : Int32) (u2 : St) => bd (pX7_isCase F p1 u2) (fun (r4 : Int32) (u3 : St) => if r4 = 0 then some ((-1), u3) else bd (pX7_isSide F p2 u3) (fun (r6 : Int32) (u5 : St) => if r6 = 0 then some ((-1), u5) else if a1 = 0 then some ((-1), u5) else gd (inb (24 + p1) 408) (if (u5.2 0 (Int32.toNatClampNeg (24 + p1))) = 0 then bd (pX7_puts F 1 (((8 * p3) + (2 * p1)) + p2) p4 u5) (fun (r8 : Int32) (u7 : St) => some (r8, u7)) else some ((-2), u5))))) (fun (J58 : Int32 → St → Option (Int32 × St)) => if p3 = 0 then bd (pX7_in F (Int32.toInt64 p4) 0 3 u) (fun (r15 : Int32) (u14 : St) => (J58 r15 u14)) else if p3 = 1 then bd (pX7_in F (Int32.toInt64 p4) 0 99 u) (fun (r13 : Int32) (u12 : St) => (J58 r13 u12)) else jn (fun (u9 : St) => (J58 0 u9)) (fun (J57 : St → Option (Int32 × St)) => if p3 = 2 then bd (pX7_in F (Int32.toInt64 p4) 0 9 u) (fun (r11 : Int32) (u10 : St) => if r11 = 0 then (J57 u10) else (J58 1 u10)) else (J57 u)))
set_option maxRecDepth 100000 in
set_option maxHeartbeats 4000000 in
theorem tX7_trim {l : Launch} {D : va_G} {cI cZ : ClassId} {ad : Nat → Nat} (F : Nat) (p1 : Int32) (p2 : Int32) (p3 : Int32) (p4 : Int32) (u : St) : CtI l D [(cI, .int), (cZ, .boolean)] (wM ad cI cZ) E0 yX7_trim wsX7_trim ({ frames := 2, cells := 0, slots := 0, locals := 46 } : Room) [.ref (ad 0), .int p1, .int p2, .int p3, .int p4] u (pX7_trim F p1 p2 p3 p4 u) := by
  refine ctI_of (own := RX7) (cc := cX7_trim) (n := 6) (ret := (some .int)) (by decide) rfl rfl (Nat.le_of_ble_eq_true rfl) (lv := [(0, .ref (ad 0)), (1, .int p1), (2, .int p2), (3, .int p3), (4, .int p4)]) rfl (fun C => ?_)
  have iX7 : ∀ w ∈ wsX70, w ∈ wsX7_trim := fun w h => List.mem_cons_of_mem _ (List.mem_append_right _ (inlX7 w h))
  rw [pX7_trim]
  refine g_iload_n C 0 3 dX7_trim_0 rfl ?_
  refine g_jn1 58 (fun (a1 : Int32) => [(0, .ref (ad 0)), (1, .int p1), (2, .int p2), (3, .int p3), (4, .int p4)]) (fun (a1 : Int32) => [.int a1]) (fun a1 u2 => ?_) (fun J58 hJ58 => ?_)
  · skip
    refine g_istore C 58 [(5, .int a1), (0, .ref (ad 0)), (1, .int p1), (2, .int p2), (3, .int p3), (4, .int p4)] dX7_trim_58 (by decide) rfl ?_
    refine g_aload_n C 60 1 dX7_trim_60 rfl ?_
    refine g_iload_n C 61 2 dX7_trim_61 rfl ?_
    refine g_callVi (st := []) (As := [.int p1]) C E0_ok E0_vm 62 0 1 (tX7_isCase F p1 u2) rfl gX7_trim_X7_isCase rfl rfl rfl (by decide +kernel) ⟨Nat.le_of_ble_eq_true rfl, Nat.le_of_ble_eq_true rfl⟩ rfl rfl rfl (Nat.le_of_ble_eq_true rfl) dX7_trim_62 (fun r4 u3 => ?_)
    refine g_if_eq C 65 80 dX7_trim_65 (by decide) ?_ ?_
    · skip
      refine g_iconst C 80 (-1) dX7_trim_80 rfl ?_
      exact g_iret C 81 dX7_trim_81
    · skip
      refine g_iload_n C 68 3 dX7_trim_68 rfl ?_
      refine g_callSi (st := []) (As := [.int p2]) C E0_ok E0_vm 69 1 (tX7_isSide F p2 u3) rfl gX7_trim_X7_isSide rfl rfl rfl (by decide +kernel) ⟨Nat.le_of_ble_eq_true rfl, Nat.le_of_ble_eq_true rfl⟩ rfl (Nat.le_of_ble_eq_true rfl) dX7_trim_69 (fun r6 u5 => ?_)
      refine g_if_eq C 72 80 dX7_trim_72 (by decide) ?_ ?_
      · skip
        refine g_iconst C 80 (-1) dX7_trim_80 rfl ?_
        exact g_iret C 81 dX7_trim_81
      · skip
        refine g_iload C 75 0 dX7_trim_75 rfl ?_
        refine g_if_ne C 77 82 dX7_trim_77 (by decide) ?_ ?_
        · skip
          refine g_aload_n C 82 1 dX7_trim_82 rfl ?_
          refine gfM_X7_state C 83 iX7 (List.mem_cons_of_mem _ (List.mem_append_right _ wgL_5_14.1)) dX7_trim_83 ?_
          refine g_bipush C 86 24 dX7_trim_86 rfl ?_
          refine g_iload_n C 88 2 dX7_trim_88 rfl ?_
          refine g_iadd C 89 dX7_trim_89 ?_
          refine g_iald C 90 (1 + 0) 0 (wM_arr 0 (by decide)) rfl dX7_trim_90 ?_
          refine g_if_eq C 91 99 dX7_trim_91 (by decide) ?_ ?_
          · skip
            refine g_aload_n C 99 1 dX7_trim_99 rfl ?_
            refine g_iconst C 100 1 dX7_trim_100 rfl ?_
            refine g_bipush C 101 8 dX7_trim_101 rfl ?_
            refine g_iload_n C 103 4 dX7_trim_103 rfl ?_
            refine g_imul C 104 dX7_trim_104 ?_
            refine g_iconst C 105 2 dX7_trim_105 rfl ?_
            refine g_iload_n C 106 2 dX7_trim_106 rfl ?_
            refine g_imul C 107 dX7_trim_107 ?_
            refine g_iadd C 108 dX7_trim_108 ?_
            refine g_iload_n C 109 3 dX7_trim_109 rfl ?_
            refine g_iadd C 110 dX7_trim_110 ?_
            refine g_iload C 111 5 dX7_trim_111 rfl ?_
            refine g_callVi (st := []) (As := [.int 1, .int (((8 * p3) + (2 * p1)) + p2), .int p4]) C E0_ok E0_vm 113 0 3 (tX7_puts F 1 (((8 * p3) + (2 * p1)) + p2) p4 u5) rfl gX7_trim_X7_puts rfl rfl rfl (by decide +kernel) ⟨Nat.le_of_ble_eq_true rfl, Nat.le_of_ble_eq_true rfl⟩ rfl rfl rfl (Nat.le_of_ble_eq_true rfl) dX7_trim_113 (fun r8 u7 => ?_)
            exact g_iret C 116 dX7_trim_116
          · skip
            refine g_bipush C 94 (-2) dX7_trim_94 rfl ?_
            refine g_goto C 96 116 dX7_trim_96 (by decide) ?_
            exact g_iret C 116 dX7_trim_116
        · skip
          refine g_iconst C 80 (-1) dX7_trim_80 rfl ?_
          exact g_iret C 81 dX7_trim_81
  · skip
    refine g_if_ne C 1 17 dX7_trim_1 (by decide) ?_ ?_
    · skip
      refine g_iload_n C 17 3 dX7_trim_17 rfl ?_
      refine g_iconst C 18 1 dX7_trim_18 rfl ?_
      refine g_icmp_ne C 19 35 dX7_trim_19 (by decide) ?_ ?_
      · skip
        refine g_iload_n C 35 3 dX7_trim_35 rfl ?_
        refine g_iconst C 36 2 dX7_trim_36 rfl ?_
        refine g_jn0 57 ([(0, .ref (ad 0)), (1, .int p1), (2, .int p2), (3, .int p3), (4, .int p4)]) ([]) (fun u9 => ?_) (fun J57 hJ57 => ?_)
        · skip
          refine g_iconst C 57 0 dX7_trim_57 rfl ?_
          exact g_sub _ [0, 1, 2, 3, 4] rfl (hJ58 0 u9)
        · skip
          refine g_icmp_ne C 37 57 dX7_trim_37 (by decide) ?_ ?_
          · skip
            exact g_sub _ [0, 1, 2, 3, 4] rfl (hJ57 u)
          · skip
            refine g_iload C 40 4 dX7_trim_40 rfl ?_
            refine g_i2l C 42 dX7_trim_42 ?_
            refine g_lconst C 43 0 dX7_trim_43 rfl ?_
            refine g_ldc2 C 44 9 (by decide +kernel) dX7_trim_44 ?_
            refine g_callSi (st := []) (As := [.long (Int32.toInt64 p4), .long 0, .long 9]) C E0_ok E0_vm 47 3 (tX7_in F (Int32.toInt64 p4) 0 9 u) rfl gX7_trim_X7_in rfl rfl rfl (by decide +kernel) ⟨Nat.le_of_ble_eq_true rfl, Nat.le_of_ble_eq_true rfl⟩ rfl (Nat.le_of_ble_eq_true rfl) dX7_trim_47 (fun r11 u10 => ?_)
            refine g_if_eq C 50 57 dX7_trim_50 (by decide) ?_ ?_
            · skip
              exact g_sub _ [0, 1, 2, 3, 4] rfl (hJ57 u10)
            · skip
              refine g_iconst C 53 1 dX7_trim_53 rfl ?_
              refine g_goto C 54 58 dX7_trim_54 (by decide) ?_
              exact g_sub _ [0, 1, 2, 3, 4] rfl (hJ58 1 u10)
      · skip
        refine g_iload C 22 4 dX7_trim_22 rfl ?_
        refine g_i2l C 24 dX7_trim_24 ?_
        refine g_lconst C 25 0 dX7_trim_25 rfl ?_
        refine g_ldc2 C 26 99 (by decide +kernel) dX7_trim_26 ?_
        refine g_callSi (st := []) (As := [.long (Int32.toInt64 p4), .long 0, .long 99]) C E0_ok E0_vm 29 3 (tX7_in F (Int32.toInt64 p4) 0 99 u) rfl gX7_trim_X7_in rfl rfl rfl (by decide +kernel) ⟨Nat.le_of_ble_eq_true rfl, Nat.le_of_ble_eq_true rfl⟩ rfl (Nat.le_of_ble_eq_true rfl) dX7_trim_29 (fun r13 u12 => ?_)
        refine g_goto C 32 58 dX7_trim_32 (by decide) ?_
        exact g_sub _ [0, 1, 2, 3, 4] rfl (hJ58 r13 u12)
    · skip
      refine g_iload C 4 4 dX7_trim_4 rfl ?_
      refine g_i2l C 6 dX7_trim_6 ?_
      refine g_lconst C 7 0 dX7_trim_7 rfl ?_
      refine g_ldc2 C 8 3 (by decide +kernel) dX7_trim_8 ?_
      refine g_callSi (st := []) (As := [.long (Int32.toInt64 p4), .long 0, .long 3]) C E0_ok E0_vm 11 3 (tX7_in F (Int32.toInt64 p4) 0 3 u) rfl gX7_trim_X7_in rfl rfl rfl (by decide +kernel) ⟨Nat.le_of_ble_eq_true rfl, Nat.le_of_ble_eq_true rfl⟩ rfl (Nat.le_of_ble_eq_true rfl) dX7_trim_11 (fun r15 u14 => ?_)
      refine g_goto C 14 58 dX7_trim_14 (by decide) ?_
      exact g_sub _ [0, 1, 2, 3, 4] rfl (hJ58 r15 u14)
def pX7_train (F : Nat) (p1 : Int32) (p2 : Int32) (p3 : Int32) (u : St) : Option (Int32 × St) :=
  bd (pX7_isJudge F p1 u) (fun (r2 : Int32) (u1 : St) => jn (fun (a3 : Int32) (u4 : St) => bd (pX7_puts F a3 ((40 + (3 * p2)) + p1) p3 u4) (fun (r6 : Int32) (u5 : St) => some (r6, u5))) (fun (J47 : Int32 → St → Option (Int32 × St)) => jn (fun (u7 : St) => (J47 0 u7)) (fun (J46 : St → Option (Int32 × St)) => if r2 = 0 then (J46 u1) else jn (fun (u8 : St) => (J47 1 u8)) (fun (J42 : St → Option (Int32 × St)) => jn (fun (u9 : St) => if p2 = 1 then bd (pX7_in F (Int32.toInt64 p3) 1 9 u9) (fun (r11 : Int32) (u10 : St) => if r11 = 0 then (J46 u10) else (J42 u10)) else (J46 u9)) (fun (J25 : St → Option (Int32 × St)) => if p2 = 0 then bd (pX7_in F (Int32.toInt64 p3) 0 3 u1) (fun (r13 : Int32) (u12 : St) => if r13 = 0 then (J25 u12) else (J42 u12)) else (J25 u1))))))
set_option maxRecDepth 100000 in
set_option maxHeartbeats 4000000 in
theorem tX7_train {l : Launch} {D : va_G} {cI cZ : ClassId} {ad : Nat → Nat} (F : Nat) (p1 : Int32) (p2 : Int32) (p3 : Int32) (u : St) : CtI l D [(cI, .int), (cZ, .boolean)] (wM ad cI cZ) E0 yX7_train wsX7_train ({ frames := 2, cells := 0, slots := 0, locals := 46 } : Room) [.ref (ad 0), .int p1, .int p2, .int p3] u (pX7_train F p1 p2 p3 u) := by
  refine ctI_of (own := RX7) (cc := cX7_train) (n := 4) (ret := (some .int)) (by decide) rfl rfl (Nat.le_of_ble_eq_true rfl) (lv := [(0, .ref (ad 0)), (1, .int p1), (2, .int p2), (3, .int p3)]) rfl (fun C => ?_)
  rw [pX7_train]
  refine g_aload_n C 0 0 dX7_train_0 rfl ?_
  refine g_aload_n C 1 0 dX7_train_1 rfl ?_
  refine g_iload_n C 2 1 dX7_train_2 rfl ?_
  refine g_callVi (st := [.ref (ad 0)]) (As := [.int p1]) C E0_ok E0_vm 3 0 1 (tX7_isJudge F p1 u) rfl gX7_train_X7_isJudge rfl rfl rfl (by decide +kernel) ⟨Nat.le_of_ble_eq_true rfl, Nat.le_of_ble_eq_true rfl⟩ rfl rfl rfl (Nat.le_of_ble_eq_true rfl) dX7_train_3 (fun r2 u1 => ?_)
  refine g_jn1 47 (fun (a3 : Int32) => [(1, .int p1), (2, .int p2), (3, .int p3)]) (fun (a3 : Int32) => [.int a3, .ref (ad 0)]) (fun a3 u4 => ?_) (fun J47 hJ47 => ?_)
  · skip
    refine g_bipush C 47 40 dX7_train_47 rfl ?_
    refine g_iconst C 49 3 dX7_train_49 rfl ?_
    refine g_iload_n C 50 1 dX7_train_50 rfl ?_
    refine g_imul C 51 dX7_train_51 ?_
    refine g_iadd C 52 dX7_train_52 ?_
    refine g_iload_n C 53 0 dX7_train_53 rfl ?_
    refine g_iadd C 54 dX7_train_54 ?_
    refine g_iload_n C 55 2 dX7_train_55 rfl ?_
    refine g_callVi (st := []) (As := [.int a3, .int ((40 + (3 * p2)) + p1), .int p3]) C E0_ok E0_vm 56 0 3 (tX7_puts F a3 ((40 + (3 * p2)) + p1) p3 u4) rfl gX7_train_X7_puts rfl rfl rfl (by decide +kernel) ⟨Nat.le_of_ble_eq_true rfl, Nat.le_of_ble_eq_true rfl⟩ rfl rfl rfl (Nat.le_of_ble_eq_true rfl) dX7_train_56 (fun r6 u5 => ?_)
    exact g_iret C 59 dX7_train_59
  · skip
    refine g_jn0 46 ([(1, .int p1), (2, .int p2), (3, .int p3)]) ([.ref (ad 0)]) (fun u7 => ?_) (fun J46 hJ46 => ?_)
    · skip
      refine g_iconst C 46 0 dX7_train_46 rfl ?_
      exact g_sub _ [0, 1, 2] rfl (hJ47 0 u7)
    · skip
      refine g_if_eq C 6 46 dX7_train_6 (by decide) ?_ ?_
      · skip
        exact g_sub _ [1, 2, 3] rfl (hJ46 u1)
      · skip
        refine g_iload_n C 9 2 dX7_train_9 rfl ?_
        refine g_jn0 42 ([(1, .int p1), (2, .int p2), (3, .int p3)]) ([.ref (ad 0)]) (fun u8 => ?_) (fun J42 hJ42 => ?_)
        · skip
          refine g_iconst C 42 1 dX7_train_42 rfl ?_
          refine g_goto C 43 47 dX7_train_43 (by decide) ?_
          exact g_sub _ [0, 1, 2] rfl (hJ47 1 u8)
        · skip
          refine g_jn0 25 ([(1, .int p1), (2, .int p2), (3, .int p3)]) ([.ref (ad 0)]) (fun u9 => ?_) (fun J25 hJ25 => ?_)
          · skip
            refine g_iload_n C 25 1 dX7_train_25 rfl ?_
            refine g_iconst C 26 1 dX7_train_26 rfl ?_
            refine g_icmp_ne C 27 46 dX7_train_27 (by decide) ?_ ?_
            · skip
              exact g_sub _ [0, 1, 2] rfl (hJ46 u9)
            · skip
              refine g_iload_n C 30 2 dX7_train_30 rfl ?_
              refine g_i2l C 31 dX7_train_31 ?_
              refine g_lconst C 32 1 dX7_train_32 rfl ?_
              refine g_ldc2 C 33 9 (by decide +kernel) dX7_train_33 ?_
              refine g_callSi (st := [.ref (ad 0)]) (As := [.long (Int32.toInt64 p3), .long 1, .long 9]) C E0_ok E0_vm 36 3 (tX7_in F (Int32.toInt64 p3) 1 9 u9) rfl gX7_train_X7_in rfl rfl rfl (by decide +kernel) ⟨Nat.le_of_ble_eq_true rfl, Nat.le_of_ble_eq_true rfl⟩ rfl (Nat.le_of_ble_eq_true rfl) dX7_train_36 (fun r11 u10 => ?_)
              refine g_if_eq C 39 46 dX7_train_39 (by decide) ?_ ?_
              · skip
                exact g_sub _ [0, 1, 2] rfl (hJ46 u10)
              · skip
                exact g_sub _ [0, 1, 2] rfl (hJ42 u10)
          · skip
            refine g_if_ne C 10 25 dX7_train_10 (by decide) ?_ ?_
            · skip
              exact g_sub _ [1, 2, 3] rfl (hJ25 u1)
            · skip
              refine g_iload_n C 13 3 dX7_train_13 rfl ?_
              refine g_i2l C 14 dX7_train_14 ?_
              refine g_lconst C 15 0 dX7_train_15 rfl ?_
              refine g_ldc2 C 16 3 (by decide +kernel) dX7_train_16 ?_
              refine g_callSi (st := [.ref (ad 0)]) (As := [.long (Int32.toInt64 p3), .long 0, .long 3]) C E0_ok E0_vm 19 3 (tX7_in F (Int32.toInt64 p3) 0 3 u1) rfl gX7_train_X7_in rfl rfl rfl (by decide +kernel) ⟨Nat.le_of_ble_eq_true rfl, Nat.le_of_ble_eq_true rfl⟩ rfl (Nat.le_of_ble_eq_true rfl) dX7_train_19 (fun r13 u12 => ?_)
              refine g_if_ne C 22 42 dX7_train_22 (by decide) ?_ ?_
              · skip
                exact g_sub _ [1, 2, 3] rfl (hJ42 u12)
              · skip
                exact g_sub _ [1, 2, 3] rfl (hJ25 u12)
def pX7_blow (F : Nat) (p1 : Int32) (p2 : Int32) (u : St) : Option (Int32 × St) :=
  bd (pX7_in F (Int32.toInt64 p1) 0 20 u) (fun (r2 : Int32) (u1 : St) => if r2 = 0 then some ((-1), u1) else bd (pX7_in F (Int32.toInt64 p2) 1 9 u1) (fun (r4 : Int32) (u3 : St) => if r4 = 0 then some ((-1), u3) else gd (inb 46 408) (if (u3.2 0 (Int32.toNatClampNeg 46)) = 4 then some ((-3), u3) else gd (inb 46 408) (gd (inb (47 + (u3.2 0 (Int32.toNatClampNeg 46))) 408) (vl (sta u3 0 (47 + (u3.2 0 (Int32.toNatClampNeg 46))) p1) (fun (u5 : St) => gd (inb 46 408) (gd (inb (51 + (u5.2 0 (Int32.toNatClampNeg 46))) 408) (vl (sta u5 0 (51 + (u5.2 0 (Int32.toNatClampNeg 46))) p2) (fun (u6 : St) => gd (inb 46 408) (gd (inb 46 408) (vl (sta u6 0 46 ((u6.2 0 (Int32.toNatClampNeg 46)) + 1)) (fun (u7 : St) => gd (inb 46 408) (some ((u7.2 0 (Int32.toNatClampNeg 46)), u7))))))))))))))
set_option maxRecDepth 100000 in
set_option maxHeartbeats 4000000 in
theorem tX7_blow {l : Launch} {D : va_G} {cI cZ : ClassId} {ad : Nat → Nat} (F : Nat) (p1 : Int32) (p2 : Int32) (u : St) : CtI l D [(cI, .int), (cZ, .boolean)] (wM ad cI cZ) E0 yX7_blow wsX7_blow ({ frames := 1, cells := 0, slots := 0, locals := 25 } : Room) [.ref (ad 0), .int p1, .int p2] u (pX7_blow F p1 p2 u) := by
  refine ctI_of (own := RX7) (cc := cX7_blow) (n := 3) (ret := (some .int)) (by decide) rfl rfl (Nat.le_of_ble_eq_true rfl) (lv := [(0, .ref (ad 0)), (1, .int p1), (2, .int p2)]) rfl (fun C => ?_)
  have iX7 : ∀ w ∈ wsX70, w ∈ wsX7_blow := fun w h => List.mem_cons_of_mem _ (List.mem_append_right _ (inlX7 w h))
  rw [pX7_blow]
  refine g_iload_n C 0 1 dX7_blow_0 rfl ?_
  refine g_i2l C 1 dX7_blow_1 ?_
  refine g_lconst C 2 0 dX7_blow_2 rfl ?_
  refine g_ldc2 C 3 20 (by decide +kernel) dX7_blow_3 ?_
  refine g_callSi (st := []) (As := [.long (Int32.toInt64 p1), .long 0, .long 20]) C E0_ok E0_vm 6 3 (tX7_in F (Int32.toInt64 p1) 0 20 u) rfl gX7_blow_X7_in rfl rfl rfl (by decide +kernel) ⟨Nat.le_of_ble_eq_true rfl, Nat.le_of_ble_eq_true rfl⟩ rfl (Nat.le_of_ble_eq_true rfl) dX7_blow_6 (fun r2 u1 => ?_)
  refine g_if_eq C 9 24 dX7_blow_9 (by decide) ?_ ?_
  · skip
    refine g_iconst C 24 (-1) dX7_blow_24 rfl ?_
    exact g_iret C 25 dX7_blow_25
  · skip
    refine g_iload_n C 12 2 dX7_blow_12 rfl ?_
    refine g_i2l C 13 dX7_blow_13 ?_
    refine g_lconst C 14 1 dX7_blow_14 rfl ?_
    refine g_ldc2 C 15 9 (by decide +kernel) dX7_blow_15 ?_
    refine g_callSi (st := []) (As := [.long (Int32.toInt64 p2), .long 1, .long 9]) C E0_ok E0_vm 18 3 (tX7_in F (Int32.toInt64 p2) 1 9 u1) rfl gX7_blow_X7_in rfl rfl rfl (by decide +kernel) ⟨Nat.le_of_ble_eq_true rfl, Nat.le_of_ble_eq_true rfl⟩ rfl (Nat.le_of_ble_eq_true rfl) dX7_blow_18 (fun r4 u3 => ?_)
    refine g_if_ne C 21 26 dX7_blow_21 (by decide) ?_ ?_
    · skip
      refine g_aload_n C 26 0 dX7_blow_26 rfl ?_
      refine gfM_X7_state C 27 iX7 (List.mem_cons_of_mem _ (List.mem_append_right _ wgL_5_14.1)) dX7_blow_27 ?_
      refine g_bipush C 30 46 dX7_blow_30 rfl ?_
      refine g_iald C 32 (1 + 0) 0 (wM_arr 0 (by decide)) rfl dX7_blow_32 ?_
      refine g_iconst C 33 4 dX7_blow_33 rfl ?_
      refine g_icmp_ne C 34 40 dX7_blow_34 (by decide) ?_ ?_
      · skip
        refine g_aload_n C 40 0 dX7_blow_40 rfl ?_
        refine gfM_X7_state C 41 iX7 (List.mem_cons_of_mem _ (List.mem_append_right _ wgL_5_14.1)) dX7_blow_41 ?_
        refine g_bipush C 44 47 dX7_blow_44 rfl ?_
        refine g_aload_n C 46 0 dX7_blow_46 rfl ?_
        refine gfM_X7_state C 47 iX7 (List.mem_cons_of_mem _ (List.mem_append_right _ wgL_5_14.1)) dX7_blow_47 ?_
        refine g_bipush C 50 46 dX7_blow_50 rfl ?_
        refine g_iald C 52 (1 + 0) 0 (wM_arr 0 (by decide)) rfl dX7_blow_52 ?_
        refine g_iadd C 53 dX7_blow_53 ?_
        refine g_iload_n C 54 1 dX7_blow_54 rfl ?_
        refine g_iast C 55 (1 + 0) 0 0 (wM_arr 0 (by decide)) (wM_aset 0 (by decide)) rfl dX7_blow_55 (fun u5 => ?_)
        refine g_aload_n C 56 0 dX7_blow_56 rfl ?_
        refine gfM_X7_state C 57 iX7 (List.mem_cons_of_mem _ (List.mem_append_right _ wgL_5_14.1)) dX7_blow_57 ?_
        refine g_bipush C 60 51 dX7_blow_60 rfl ?_
        refine g_aload_n C 62 0 dX7_blow_62 rfl ?_
        refine gfM_X7_state C 63 iX7 (List.mem_cons_of_mem _ (List.mem_append_right _ wgL_5_14.1)) dX7_blow_63 ?_
        refine g_bipush C 66 46 dX7_blow_66 rfl ?_
        refine g_iald C 68 (1 + 0) 0 (wM_arr 0 (by decide)) rfl dX7_blow_68 ?_
        refine g_iadd C 69 dX7_blow_69 ?_
        refine g_iload_n C 70 2 dX7_blow_70 rfl ?_
        refine g_iast C 71 (1 + 0) 0 0 (wM_arr 0 (by decide)) (wM_aset 0 (by decide)) rfl dX7_blow_71 (fun u6 => ?_)
        refine g_aload_n C 72 0 dX7_blow_72 rfl ?_
        refine gfM_X7_state C 73 iX7 (List.mem_cons_of_mem _ (List.mem_append_right _ wgL_5_14.1)) dX7_blow_73 ?_
        refine g_bipush C 76 46 dX7_blow_76 rfl ?_
        refine g_dup2 C 78 dX7_blow_78 rfl rfl ?_
        refine g_iald C 79 (1 + 0) 0 (wM_arr 0 (by decide)) rfl dX7_blow_79 ?_
        refine g_iconst C 80 1 dX7_blow_80 rfl ?_
        refine g_iadd C 81 dX7_blow_81 ?_
        refine g_iast C 82 (1 + 0) 0 0 (wM_arr 0 (by decide)) (wM_aset 0 (by decide)) rfl dX7_blow_82 (fun u7 => ?_)
        refine g_aload_n C 83 0 dX7_blow_83 rfl ?_
        refine gfM_X7_state C 84 iX7 (List.mem_cons_of_mem _ (List.mem_append_right _ wgL_5_14.1)) dX7_blow_84 ?_
        refine g_bipush C 87 46 dX7_blow_87 rfl ?_
        refine g_iald C 89 (1 + 0) 0 (wM_arr 0 (by decide)) rfl dX7_blow_89 ?_
        exact g_iret C 90 dX7_blow_90
      · skip
        refine g_bipush C 37 (-3) dX7_blow_37 rfl ?_
        exact g_iret C 39 dX7_blow_39
    · skip
      refine g_iconst C 24 (-1) dX7_blow_24 rfl ?_
      exact g_iret C 25 dX7_blow_25
def pX7_calm (F : Nat) (p1 : Int32) (u : St) : Option (Int32 × St) :=
  gd (inb 46 408) (bd (pX7_in F (Int32.toInt64 p1) 0 (Int32.toInt64 (u.2 0 (Int32.toNatClampNeg 46))) u) (fun (r2 : Int32) (u1 : St) => bd (pX7_puts F r2 46 p1 u1) (fun (r4 : Int32) (u3 : St) => some (r4, u3))))
set_option maxRecDepth 100000 in
set_option maxHeartbeats 4000000 in
theorem tX7_calm {l : Launch} {D : va_G} {cI cZ : ClassId} {ad : Nat → Nat} (F : Nat) (p1 : Int32) (u : St) : CtI l D [(cI, .int), (cZ, .boolean)] (wM ad cI cZ) E0 yX7_calm wsX7_calm ({ frames := 1, cells := 0, slots := 0, locals := 25 } : Room) [.ref (ad 0), .int p1] u (pX7_calm F p1 u) := by
  refine ctI_of (own := RX7) (cc := cX7_calm) (n := 2) (ret := (some .int)) (by decide) rfl rfl (Nat.le_of_ble_eq_true rfl) (lv := [(0, .ref (ad 0)), (1, .int p1)]) rfl (fun C => ?_)
  have iX7 : ∀ w ∈ wsX70, w ∈ wsX7_calm := fun w h => List.mem_cons_of_mem _ (List.mem_append_right _ (inlX7 w h))
  rw [pX7_calm]
  refine g_aload_n C 0 0 dX7_calm_0 rfl ?_
  refine g_iload_n C 1 1 dX7_calm_1 rfl ?_
  refine g_i2l C 2 dX7_calm_2 ?_
  refine g_lconst C 3 0 dX7_calm_3 rfl ?_
  refine g_aload_n C 4 0 dX7_calm_4 rfl ?_
  refine gfM_X7_state C 5 iX7 (List.mem_cons_of_mem _ (List.mem_append_right _ wgL_5_14.1)) dX7_calm_5 ?_
  refine g_bipush C 8 46 dX7_calm_8 rfl ?_
  refine g_iald C 10 (1 + 0) 0 (wM_arr 0 (by decide)) rfl dX7_calm_10 ?_
  refine g_i2l C 11 dX7_calm_11 ?_
  refine g_callSi (st := [.ref (ad 0)]) (As := [.long (Int32.toInt64 p1), .long 0, .long (Int32.toInt64 (u.2 0 (Int32.toNatClampNeg 46)))]) C E0_ok E0_vm 12 3 (tX7_in F (Int32.toInt64 p1) 0 (Int32.toInt64 (u.2 0 (Int32.toNatClampNeg 46))) u) rfl gX7_calm_X7_in rfl rfl rfl (by decide +kernel) ⟨Nat.le_of_ble_eq_true rfl, Nat.le_of_ble_eq_true rfl⟩ rfl (Nat.le_of_ble_eq_true rfl) dX7_calm_12 (fun r2 u1 => ?_)
  refine g_bipush C 15 46 dX7_calm_15 rfl ?_
  refine g_iload_n C 17 1 dX7_calm_17 rfl ?_
  refine g_callVi (st := []) (As := [.int r2, .int 46, .int p1]) C E0_ok E0_vm 18 0 3 (tX7_puts F r2 46 p1 u1) rfl gX7_calm_X7_puts rfl rfl rfl (by decide +kernel) ⟨Nat.le_of_ble_eq_true rfl, Nat.le_of_ble_eq_true rfl⟩ rfl rfl rfl (Nat.le_of_ble_eq_true rfl) dX7_calm_18 (fun r4 u3 => ?_)
  exact g_iret C 21 dX7_calm_21
def pX7_plan (F : Nat) (p1 : Int32) (p2 : Int32) (u : St) : Option (Int32 × St) :=
  bd (pX7_isCase F p1 u) (fun (r2 : Int32) (u1 : St) => if r2 = 0 then some ((-1), u1) else bd (pX7_isJudge F p2 u1) (fun (r4 : Int32) (u3 : St) => if r4 = 0 then some ((-1), u3) else gd (inb 55 408) (if (u3.2 0 (Int32.toNatClampNeg 55)) = 6 then some ((-3), u3) else gd (inb 55 408) (gd (inb (56 + (u3.2 0 (Int32.toNatClampNeg 55))) 408) (vl (sta u3 0 (56 + (u3.2 0 (Int32.toNatClampNeg 55))) p1) (fun (u5 : St) => gd (inb 55 408) (gd (inb (62 + (u5.2 0 (Int32.toNatClampNeg 55))) 408) (vl (sta u5 0 (62 + (u5.2 0 (Int32.toNatClampNeg 55))) p2) (fun (u6 : St) => gd (inb 55 408) (gd (inb 55 408) (vl (sta u6 0 55 ((u6.2 0 (Int32.toNatClampNeg 55)) + 1)) (fun (u7 : St) => gd (inb 55 408) (some ((u7.2 0 (Int32.toNatClampNeg 55)), u7))))))))))))))
set_option maxRecDepth 100000 in
set_option maxHeartbeats 4000000 in
theorem tX7_plan {l : Launch} {D : va_G} {cI cZ : ClassId} {ad : Nat → Nat} (F : Nat) (p1 : Int32) (p2 : Int32) (u : St) : CtI l D [(cI, .int), (cZ, .boolean)] (wM ad cI cZ) E0 yX7_plan wsX7_plan ({ frames := 2, cells := 0, slots := 0, locals := 46 } : Room) [.ref (ad 0), .int p1, .int p2] u (pX7_plan F p1 p2 u) := by
  refine ctI_of (own := RX7) (cc := cX7_plan) (n := 3) (ret := (some .int)) (by decide) rfl rfl (Nat.le_of_ble_eq_true rfl) (lv := [(0, .ref (ad 0)), (1, .int p1), (2, .int p2)]) rfl (fun C => ?_)
  have iX7 : ∀ w ∈ wsX70, w ∈ wsX7_plan := fun w h => List.mem_cons_of_mem _ (List.mem_append_right _ (inlX7 w h))
  rw [pX7_plan]
  refine g_aload_n C 0 0 dX7_plan_0 rfl ?_
  refine g_iload_n C 1 1 dX7_plan_1 rfl ?_
  refine g_callVi (st := []) (As := [.int p1]) C E0_ok E0_vm 2 0 1 (tX7_isCase F p1 u) rfl gX7_plan_X7_isCase rfl rfl rfl (by decide +kernel) ⟨Nat.le_of_ble_eq_true rfl, Nat.le_of_ble_eq_true rfl⟩ rfl rfl rfl (Nat.le_of_ble_eq_true rfl) dX7_plan_2 (fun r2 u1 => ?_)
  refine g_if_eq C 5 16 dX7_plan_5 (by decide) ?_ ?_
  · skip
    refine g_iconst C 16 (-1) dX7_plan_16 rfl ?_
    exact g_iret C 17 dX7_plan_17
  · skip
    refine g_aload_n C 8 0 dX7_plan_8 rfl ?_
    refine g_iload_n C 9 2 dX7_plan_9 rfl ?_
    refine g_callVi (st := []) (As := [.int p2]) C E0_ok E0_vm 10 0 1 (tX7_isJudge F p2 u1) rfl gX7_plan_X7_isJudge rfl rfl rfl (by decide +kernel) ⟨Nat.le_of_ble_eq_true rfl, Nat.le_of_ble_eq_true rfl⟩ rfl rfl rfl (Nat.le_of_ble_eq_true rfl) dX7_plan_10 (fun r4 u3 => ?_)
    refine g_if_ne C 13 18 dX7_plan_13 (by decide) ?_ ?_
    · skip
      refine g_aload_n C 18 0 dX7_plan_18 rfl ?_
      refine gfM_X7_state C 19 iX7 (List.mem_cons_of_mem _ (List.mem_append_right _ wgL_5_14.1)) dX7_plan_19 ?_
      refine g_bipush C 22 55 dX7_plan_22 rfl ?_
      refine g_iald C 24 (1 + 0) 0 (wM_arr 0 (by decide)) rfl dX7_plan_24 ?_
      refine g_bipush C 25 6 dX7_plan_25 rfl ?_
      refine g_icmp_ne C 27 33 dX7_plan_27 (by decide) ?_ ?_
      · skip
        refine g_aload_n C 33 0 dX7_plan_33 rfl ?_
        refine gfM_X7_state C 34 iX7 (List.mem_cons_of_mem _ (List.mem_append_right _ wgL_5_14.1)) dX7_plan_34 ?_
        refine g_bipush C 37 56 dX7_plan_37 rfl ?_
        refine g_aload_n C 39 0 dX7_plan_39 rfl ?_
        refine gfM_X7_state C 40 iX7 (List.mem_cons_of_mem _ (List.mem_append_right _ wgL_5_14.1)) dX7_plan_40 ?_
        refine g_bipush C 43 55 dX7_plan_43 rfl ?_
        refine g_iald C 45 (1 + 0) 0 (wM_arr 0 (by decide)) rfl dX7_plan_45 ?_
        refine g_iadd C 46 dX7_plan_46 ?_
        refine g_iload_n C 47 1 dX7_plan_47 rfl ?_
        refine g_iast C 48 (1 + 0) 0 0 (wM_arr 0 (by decide)) (wM_aset 0 (by decide)) rfl dX7_plan_48 (fun u5 => ?_)
        refine g_aload_n C 49 0 dX7_plan_49 rfl ?_
        refine gfM_X7_state C 50 iX7 (List.mem_cons_of_mem _ (List.mem_append_right _ wgL_5_14.1)) dX7_plan_50 ?_
        refine g_bipush C 53 62 dX7_plan_53 rfl ?_
        refine g_aload_n C 55 0 dX7_plan_55 rfl ?_
        refine gfM_X7_state C 56 iX7 (List.mem_cons_of_mem _ (List.mem_append_right _ wgL_5_14.1)) dX7_plan_56 ?_
        refine g_bipush C 59 55 dX7_plan_59 rfl ?_
        refine g_iald C 61 (1 + 0) 0 (wM_arr 0 (by decide)) rfl dX7_plan_61 ?_
        refine g_iadd C 62 dX7_plan_62 ?_
        refine g_iload_n C 63 2 dX7_plan_63 rfl ?_
        refine g_iast C 64 (1 + 0) 0 0 (wM_arr 0 (by decide)) (wM_aset 0 (by decide)) rfl dX7_plan_64 (fun u6 => ?_)
        refine g_aload_n C 65 0 dX7_plan_65 rfl ?_
        refine gfM_X7_state C 66 iX7 (List.mem_cons_of_mem _ (List.mem_append_right _ wgL_5_14.1)) dX7_plan_66 ?_
        refine g_bipush C 69 55 dX7_plan_69 rfl ?_
        refine g_dup2 C 71 dX7_plan_71 rfl rfl ?_
        refine g_iald C 72 (1 + 0) 0 (wM_arr 0 (by decide)) rfl dX7_plan_72 ?_
        refine g_iconst C 73 1 dX7_plan_73 rfl ?_
        refine g_iadd C 74 dX7_plan_74 ?_
        refine g_iast C 75 (1 + 0) 0 0 (wM_arr 0 (by decide)) (wM_aset 0 (by decide)) rfl dX7_plan_75 (fun u7 => ?_)
        refine g_aload_n C 76 0 dX7_plan_76 rfl ?_
        refine gfM_X7_state C 77 iX7 (List.mem_cons_of_mem _ (List.mem_append_right _ wgL_5_14.1)) dX7_plan_77 ?_
        refine g_bipush C 80 55 dX7_plan_80 rfl ?_
        refine g_iald C 82 (1 + 0) 0 (wM_arr 0 (by decide)) rfl dX7_plan_82 ?_
        exact g_iret C 83 dX7_plan_83
      · skip
        refine g_bipush C 30 (-3) dX7_plan_30 rfl ?_
        exact g_iret C 32 dX7_plan_32
    · skip
      refine g_iconst C 16 (-1) dX7_plan_16 rfl ?_
      exact g_iret C 17 dX7_plan_17
def pX7_cut (F : Nat) (p1 : Int32) (u : St) : Option (Int32 × St) :=
  gd (inb 55 408) (bd (pX7_in F (Int32.toInt64 p1) 0 (Int32.toInt64 (u.2 0 (Int32.toNatClampNeg 55))) u) (fun (r2 : Int32) (u1 : St) => bd (pX7_puts F r2 55 p1 u1) (fun (r4 : Int32) (u3 : St) => some (r4, u3))))
set_option maxRecDepth 100000 in
set_option maxHeartbeats 4000000 in
theorem tX7_cut {l : Launch} {D : va_G} {cI cZ : ClassId} {ad : Nat → Nat} (F : Nat) (p1 : Int32) (u : St) : CtI l D [(cI, .int), (cZ, .boolean)] (wM ad cI cZ) E0 yX7_cut wsX7_cut ({ frames := 1, cells := 0, slots := 0, locals := 25 } : Room) [.ref (ad 0), .int p1] u (pX7_cut F p1 u) := by
  refine ctI_of (own := RX7) (cc := cX7_cut) (n := 2) (ret := (some .int)) (by decide) rfl rfl (Nat.le_of_ble_eq_true rfl) (lv := [(0, .ref (ad 0)), (1, .int p1)]) rfl (fun C => ?_)
  have iX7 : ∀ w ∈ wsX70, w ∈ wsX7_cut := fun w h => List.mem_cons_of_mem _ (List.mem_append_right _ (inlX7 w h))
  rw [pX7_cut]
  refine g_aload_n C 0 0 dX7_cut_0 rfl ?_
  refine g_iload_n C 1 1 dX7_cut_1 rfl ?_
  refine g_i2l C 2 dX7_cut_2 ?_
  refine g_lconst C 3 0 dX7_cut_3 rfl ?_
  refine g_aload_n C 4 0 dX7_cut_4 rfl ?_
  refine gfM_X7_state C 5 iX7 (List.mem_cons_of_mem _ (List.mem_append_right _ wgL_5_14.1)) dX7_cut_5 ?_
  refine g_bipush C 8 55 dX7_cut_8 rfl ?_
  refine g_iald C 10 (1 + 0) 0 (wM_arr 0 (by decide)) rfl dX7_cut_10 ?_
  refine g_i2l C 11 dX7_cut_11 ?_
  refine g_callSi (st := [.ref (ad 0)]) (As := [.long (Int32.toInt64 p1), .long 0, .long (Int32.toInt64 (u.2 0 (Int32.toNatClampNeg 55)))]) C E0_ok E0_vm 12 3 (tX7_in F (Int32.toInt64 p1) 0 (Int32.toInt64 (u.2 0 (Int32.toNatClampNeg 55))) u) rfl gX7_cut_X7_in rfl rfl rfl (by decide +kernel) ⟨Nat.le_of_ble_eq_true rfl, Nat.le_of_ble_eq_true rfl⟩ rfl (Nat.le_of_ble_eq_true rfl) dX7_cut_12 (fun r2 u1 => ?_)
  refine g_bipush C 15 55 dX7_cut_15 rfl ?_
  refine g_iload_n C 17 1 dX7_cut_17 rfl ?_
  refine g_callVi (st := []) (As := [.int r2, .int 55, .int p1]) C E0_ok E0_vm 18 0 3 (tX7_puts F r2 55 p1 u1) rfl gX7_cut_X7_puts rfl rfl rfl (by decide +kernel) ⟨Nat.le_of_ble_eq_true rfl, Nat.le_of_ble_eq_true rfl⟩ rfl rfl rfl (Nat.le_of_ble_eq_true rfl) dX7_cut_18 (fun r4 u3 => ?_)
  exact g_iret C 21 dX7_cut_21
def pX7_isHeard (F : Nat) (p1 : Int32) (p2 : Int32) (u : St) : Option (Int32 × St) :=
  bd (pX7_isCase F p1 u) (fun (r2 : Int32) (u1 : St) => if r2 = 0 then some (0, u1) else bd (pX7_isJudge F p2 u1) (fun (r4 : Int32) (u3 : St) => if r4 = 0 then some (0, u3) else some (1, u3)))
set_option maxRecDepth 100000 in
set_option maxHeartbeats 4000000 in
theorem tX7_isHeard {l : Launch} {D : va_G} {cI cZ : ClassId} {ad : Nat → Nat} (F : Nat) (p1 : Int32) (p2 : Int32) (u : St) : CtI l D [(cI, .int), (cZ, .boolean)] (wM ad cI cZ) E0 yX7_isHeard wsX7_isHeard ({ frames := 2, cells := 0, slots := 0, locals := 46 } : Room) [.ref (ad 0), .int p1, .int p2] u (pX7_isHeard F p1 p2 u) := by
  refine ctI_of (own := RX7) (cc := cX7_isHeard) (n := 3) (ret := (some .boolean)) (by decide) rfl rfl (Nat.le_of_ble_eq_true rfl) (lv := [(0, .ref (ad 0)), (1, .int p1), (2, .int p2)]) rfl (fun C => ?_)
  rw [pX7_isHeard]
  refine g_aload_n C 0 0 dX7_isHeard_0 rfl ?_
  refine g_iload_n C 1 1 dX7_isHeard_1 rfl ?_
  refine g_callVi (st := []) (As := [.int p1]) C E0_ok E0_vm 2 0 1 (tX7_isCase F p1 u) rfl gX7_isHeard_X7_isCase rfl rfl rfl (by decide +kernel) ⟨Nat.le_of_ble_eq_true rfl, Nat.le_of_ble_eq_true rfl⟩ rfl rfl rfl (Nat.le_of_ble_eq_true rfl) dX7_isHeard_2 (fun r2 u1 => ?_)
  refine g_if_eq C 5 20 dX7_isHeard_5 (by decide) ?_ ?_
  · skip
    refine g_iconst C 20 0 dX7_isHeard_20 rfl ?_
    exact g_nret C 21 rfl dX7_isHeard_21
  · skip
    refine g_aload_n C 8 0 dX7_isHeard_8 rfl ?_
    refine g_iload_n C 9 2 dX7_isHeard_9 rfl ?_
    refine g_callVi (st := []) (As := [.int p2]) C E0_ok E0_vm 10 0 1 (tX7_isJudge F p2 u1) rfl gX7_isHeard_X7_isJudge rfl rfl rfl (by decide +kernel) ⟨Nat.le_of_ble_eq_true rfl, Nat.le_of_ble_eq_true rfl⟩ rfl rfl rfl (Nat.le_of_ble_eq_true rfl) dX7_isHeard_10 (fun r4 u3 => ?_)
    refine g_if_eq C 13 20 dX7_isHeard_13 (by decide) ?_ ?_
    · skip
      refine g_iconst C 20 0 dX7_isHeard_20 rfl ?_
      exact g_nret C 21 rfl dX7_isHeard_21
    · skip
      refine g_iconst C 16 1 dX7_isHeard_16 rfl ?_
      refine g_goto C 17 21 dX7_isHeard_17 (by decide) ?_
      exact g_nret C 21 rfl dX7_isHeard_21
def pX7_judgesOn (F : Nat) (p1 : Int32) (p2 : Int32) (p3 : Int32) (u : St) : Option (Int32 × St) :=
  bd (pX7_hearsOn F p1 p2 p3 u) (fun (r2 : Int32) (u1 : St) => gd (inb ((p1 + 24) + p2) 408) (vl (sta u1 0 ((p1 + 24) + p2) r2) (fun (u3 : St) => gd (inb ((p1 + 32) + p2) 408) (vl (sta u3 0 ((p1 + 32) + p2) ((u3.1 18) + 1)) (fun (u4 : St) => gd (inb ((p1 + 36) + p2) 408) (vl (sta u4 0 ((p1 + 36) + p2) (p3 + 1)) (fun (u5 : St) => some (r2, u5))))))))
set_option maxRecDepth 100000 in
set_option maxHeartbeats 4000000 in
theorem tX7_judgesOn {l : Launch} {D : va_G} {cI cZ : ClassId} {ad : Nat → Nat} (F : Nat) (p1 : Int32) (p2 : Int32) (p3 : Int32) (u : St) : CtI l D [(cI, .int), (cZ, .boolean)] (wM ad cI cZ) E0 yX7_judgesOn wsX7_judgesOn ({ frames := 3, cells := 0, slots := 0, locals := 75 } : Room) [.ref (ad 0), .int p1, .int p2, .int p3] u (pX7_judgesOn F p1 p2 p3 u) := by
  refine ctI_of (own := RX7) (cc := cX7_judgesOn) (n := 5) (ret := (some .int)) (by decide) rfl rfl (Nat.le_of_ble_eq_true rfl) (lv := [(0, .ref (ad 0)), (1, .int p1), (2, .int p2), (3, .int p3)]) rfl (fun C => ?_)
  have iX7 : ∀ w ∈ wsX70, w ∈ wsX7_judgesOn := fun w h => List.mem_cons_of_mem _ (List.mem_append_right _ (inlX7 w h))
  rw [pX7_judgesOn]
  refine g_aload_n C 0 0 dX7_judgesOn_0 rfl ?_
  refine g_iload_n C 1 1 dX7_judgesOn_1 rfl ?_
  refine g_iload_n C 2 2 dX7_judgesOn_2 rfl ?_
  refine g_iload_n C 3 3 dX7_judgesOn_3 rfl ?_
  refine g_callVi (st := []) (As := [.int p1, .int p2, .int p3]) C E0_ok E0_vm 4 0 3 (tX7_hearsOn F p1 p2 p3 u) rfl gX7_judgesOn_X7_hearsOn rfl rfl rfl (by decide +kernel) ⟨Nat.le_of_ble_eq_true rfl, Nat.le_of_ble_eq_true rfl⟩ rfl rfl rfl (Nat.le_of_ble_eq_true rfl) dX7_judgesOn_4 (fun r2 u1 => ?_)
  refine g_istore C 7 [(4, .int r2), (0, .ref (ad 0)), (1, .int p1), (2, .int p2), (3, .int p3)] dX7_judgesOn_7 (by decide) rfl ?_
  refine g_aload_n C 9 1 dX7_judgesOn_9 rfl ?_
  refine gfM_X7_state C 10 iX7 (List.mem_cons_of_mem _ (List.mem_append_right _ wgL_5_14.1)) dX7_judgesOn_10 ?_
  refine g_iload_n C 13 2 dX7_judgesOn_13 rfl ?_
  refine g_bipush C 14 24 dX7_judgesOn_14 rfl ?_
  refine g_iadd C 16 dX7_judgesOn_16 ?_
  refine g_iload_n C 17 3 dX7_judgesOn_17 rfl ?_
  refine g_iadd C 18 dX7_judgesOn_18 ?_
  refine g_iload C 19 0 dX7_judgesOn_19 rfl ?_
  refine g_iast C 21 (1 + 0) 0 0 (wM_arr 0 (by decide)) (wM_aset 0 (by decide)) rfl dX7_judgesOn_21 (fun u3 => ?_)
  refine g_aload_n C 22 1 dX7_judgesOn_22 rfl ?_
  refine gfM_X7_state C 23 iX7 (List.mem_cons_of_mem _ (List.mem_append_right _ wgL_5_14.1)) dX7_judgesOn_23 ?_
  refine g_iload_n C 26 2 dX7_judgesOn_26 rfl ?_
  refine g_bipush C 27 32 dX7_judgesOn_27 rfl ?_
  refine g_iadd C 29 dX7_judgesOn_29 ?_
  refine g_iload_n C 30 3 dX7_judgesOn_30 rfl ?_
  refine g_iadd C 31 dX7_judgesOn_31 ?_
  refine g_aload_n C 32 1 dX7_judgesOn_32 rfl ?_
  refine gfM_X7_endedAt C 33 iX7 (List.mem_cons_of_mem _ (List.mem_append_right _ wgL_27_12.1)) dX7_judgesOn_33 ?_
  refine g_iconst C 36 1 dX7_judgesOn_36 rfl ?_
  refine g_iadd C 37 dX7_judgesOn_37 ?_
  refine g_iast C 38 (1 + 0) 0 0 (wM_arr 0 (by decide)) (wM_aset 0 (by decide)) rfl dX7_judgesOn_38 (fun u4 => ?_)
  refine g_aload_n C 39 1 dX7_judgesOn_39 rfl ?_
  refine gfM_X7_state C 40 iX7 (List.mem_cons_of_mem _ (List.mem_append_right _ wgL_5_14.1)) dX7_judgesOn_40 ?_
  refine g_iload_n C 43 2 dX7_judgesOn_43 rfl ?_
  refine g_bipush C 44 36 dX7_judgesOn_44 rfl ?_
  refine g_iadd C 46 dX7_judgesOn_46 ?_
  refine g_iload_n C 47 3 dX7_judgesOn_47 rfl ?_
  refine g_iadd C 48 dX7_judgesOn_48 ?_
  refine g_iload_n C 49 4 dX7_judgesOn_49 rfl ?_
  refine g_iconst C 50 1 dX7_judgesOn_50 rfl ?_
  refine g_iadd C 51 dX7_judgesOn_51 ?_
  refine g_iast C 52 (1 + 0) 0 0 (wM_arr 0 (by decide)) (wM_aset 0 (by decide)) rfl dX7_judgesOn_52 (fun u5 => ?_)
  refine g_iload C 53 0 dX7_judgesOn_53 rfl ?_
  exact g_iret C 55 dX7_judgesOn_55
def pX7_hears (F : Nat) (p1 : Int32) (p2 : Int32) (u : St) : Option (Int32 × St) :=
  bd (pX7_isHeard F p1 p2 u) (fun (r2 : Int32) (u1 : St) => if r2 = 0 then some ((-1), u1) else gd (inb (24 + p1) 408) (if (u1.2 0 (Int32.toNatClampNeg (24 + p1))) = 0 then bd (pX7_judgesOn F 0 p1 p2 u1) (fun (r4 : Int32) (u3 : St) => some (r4, u3)) else some ((-2), u1)))
set_option maxRecDepth 100000 in
set_option maxHeartbeats 4000000 in
theorem tX7_hears {l : Launch} {D : va_G} {cI cZ : ClassId} {ad : Nat → Nat} (F : Nat) (p1 : Int32) (p2 : Int32) (u : St) : CtI l D [(cI, .int), (cZ, .boolean)] (wM ad cI cZ) E0 yX7_hears wsX7_hears ({ frames := 4, cells := 0, slots := 0, locals := 99 } : Room) [.ref (ad 0), .int p1, .int p2] u (pX7_hears F p1 p2 u) := by
  refine ctI_of (own := RX7) (cc := cX7_hears) (n := 3) (ret := (some .int)) (by decide) rfl rfl (Nat.le_of_ble_eq_true rfl) (lv := [(0, .ref (ad 0)), (1, .int p1), (2, .int p2)]) rfl (fun C => ?_)
  have iX7 : ∀ w ∈ wsX70, w ∈ wsX7_hears := fun w h => List.mem_cons_of_mem _ (List.mem_append_right _ (inlX7 w h))
  rw [pX7_hears]
  refine g_aload_n C 0 0 dX7_hears_0 rfl ?_
  refine g_iload_n C 1 1 dX7_hears_1 rfl ?_
  refine g_iload_n C 2 2 dX7_hears_2 rfl ?_
  refine g_callVi (st := []) (As := [.int p1, .int p2]) C E0_ok E0_vm 3 0 2 (tX7_isHeard F p1 p2 u) rfl gX7_hears_X7_isHeard rfl rfl rfl (by decide +kernel) ⟨Nat.le_of_ble_eq_true rfl, Nat.le_of_ble_eq_true rfl⟩ rfl rfl rfl (Nat.le_of_ble_eq_true rfl) dX7_hears_3 (fun r2 u1 => ?_)
  refine g_if_ne C 6 11 dX7_hears_6 (by decide) ?_ ?_
  · skip
    refine g_aload_n C 11 0 dX7_hears_11 rfl ?_
    refine gfM_X7_state C 12 iX7 (List.mem_cons_of_mem _ (List.mem_append_right _ wgL_5_14.1)) dX7_hears_12 ?_
    refine g_bipush C 15 24 dX7_hears_15 rfl ?_
    refine g_iload_n C 17 1 dX7_hears_17 rfl ?_
    refine g_iadd C 18 dX7_hears_18 ?_
    refine g_iald C 19 (1 + 0) 0 (wM_arr 0 (by decide)) rfl dX7_hears_19 ?_
    refine g_if_eq C 20 28 dX7_hears_20 (by decide) ?_ ?_
    · skip
      refine g_aload_n C 28 0 dX7_hears_28 rfl ?_
      refine g_iconst C 29 0 dX7_hears_29 rfl ?_
      refine g_iload_n C 30 1 dX7_hears_30 rfl ?_
      refine g_iload_n C 31 2 dX7_hears_31 rfl ?_
      refine g_callVi (st := []) (As := [.int 0, .int p1, .int p2]) C E0_ok E0_vm 32 0 3 (tX7_judgesOn F 0 p1 p2 u1) rfl gX7_hears_X7_judgesOn rfl rfl rfl (by decide +kernel) ⟨Nat.le_of_ble_eq_true rfl, Nat.le_of_ble_eq_true rfl⟩ rfl rfl rfl (Nat.le_of_ble_eq_true rfl) dX7_hears_32 (fun r4 u3 => ?_)
      exact g_iret C 35 dX7_hears_35
    · skip
      refine g_bipush C 23 (-2) dX7_hears_23 rfl ?_
      refine g_goto C 25 35 dX7_hears_25 (by decide) ?_
      exact g_iret C 35 dX7_hears_35
  · skip
    refine g_iconst C 9 (-1) dX7_hears_9 rfl ?_
    exact g_iret C 10 dX7_hears_10
def pX7_hear (F : Nat) (p1 : Int32) (p2 : Int32) (u : St) : Option (Int32 × St) :=
  bd (pX7_hears F p1 p2 u) (fun (r2 : Int32) (u1 : St) => some (r2, u1))
set_option maxRecDepth 100000 in
set_option maxHeartbeats 4000000 in
theorem tX7_hear {l : Launch} {D : va_G} {cI cZ : ClassId} {ad : Nat → Nat} (F : Nat) (p1 : Int32) (p2 : Int32) (u : St) : CtI l D [(cI, .int), (cZ, .boolean)] (wM ad cI cZ) E0 yX7_hear wsX7_hear ({ frames := 5, cells := 0, slots := 0, locals := 121 } : Room) [.ref (ad 0), .int p1, .int p2] u (pX7_hear F p1 p2 u) := by
  refine ctI_of (own := RX7) (cc := cX7_hear) (n := 3) (ret := (some .int)) (by decide) rfl rfl (Nat.le_of_ble_eq_true rfl) (lv := [(0, .ref (ad 0)), (1, .int p1), (2, .int p2)]) rfl (fun C => ?_)
  rw [pX7_hear]
  refine g_aload_n C 0 0 dX7_hear_0 rfl ?_
  refine g_iload_n C 1 1 dX7_hear_1 rfl ?_
  refine g_iload_n C 2 2 dX7_hear_2 rfl ?_
  refine g_callVi (st := []) (As := [.int p1, .int p2]) C E0_ok E0_vm 3 0 2 (tX7_hears F p1 p2 u) rfl gX7_hear_X7_hears rfl rfl rfl (by decide +kernel) ⟨Nat.le_of_ble_eq_true rfl, Nat.le_of_ble_eq_true rfl⟩ rfl rfl rfl (Nat.le_of_ble_eq_true rfl) dX7_hear_3 (fun r2 u1 => ?_)
  exact g_iret C 6 dX7_hear_6
def jX7_appeal_106 (F : Nat) (p1 : Int32)  (u6 : St) : Option (Int32 × St) :=
  bd (pX7_lengthOf F 0 p1 u6) (fun (r8 : Int32) (u7 : St) => some (r8, u7))
def bX7_appeal_62 (F : Nat) (p1 : Int32) (J106 : St → Option (Int32 × St)) (self11 : Int32 → St → Option (Int32 × St)) (x9 : Int32) (u10 : St) : Option (Int32 × St) :=
  if ((2 * p1) + 2) ≤ x9 then (J106 u10) else gd (inb (8 + x9) 408) (gd (inb (8 + x9) 408) (jn (fun (a12 : Int32) (u13 : St) => gd (inb (8 + x9) 408) (vl (sta u13 0 (8 + x9) ((u10.2 0 (Int32.toNatClampNeg (8 + x9))) + a12)) (fun (u14 : St) => (self11 (x9 + 1) u14)))) (fun (J98 : Int32 → St → Option (Int32 × St)) => if (u10.2 0 (Int32.toNatClampNeg (8 + x9))) = 0 then (J98 1 u10) else (J98 0 u10))))
def pX7_appeal (F : Nat) (p1 : Int32) (u : St) : Option (Int32 × St) :=
  bd (pX7_isCase F p1 u) (fun (r2 : Int32) (u1 : St) => if r2 = 0 then some ((-1), u1) else gd (inb (24 + p1) 408) (if (u1.2 0 (Int32.toNatClampNeg (24 + p1))) = 0 then some ((-2), u1) else gd (inb (28 + p1) 408) (if (u1.2 0 (Int32.toNatClampNeg (28 + p1))) = 1 then some ((-2), u1) else gd (inb (24 + p1) 408) (vl (sta u1 0 (24 + p1) 0) (fun (u3 : St) => gd (inb (28 + p1) 408) (vl (sta u3 0 (28 + p1) 1) (fun (u4 : St) => vl (2 * p1) (fun v5 => jn (jX7_appeal_106 F p1) (fun (J106 : St → Option (Int32 × St)) => (lq1 (bX7_appeal_62 F p1 J106) F v5 u4))))))))))
set_option maxRecDepth 100000 in
set_option maxHeartbeats 4000000 in
theorem tX7_appeal {l : Launch} {D : va_G} {cI cZ : ClassId} {ad : Nat → Nat} (F : Nat) (p1 : Int32) (u : St) : CtI l D [(cI, .int), (cZ, .boolean)] (wM ad cI cZ) E0 yX7_appeal wsX7_appeal ({ frames := 2, cells := 0, slots := 0, locals := 46 } : Room) [.ref (ad 0), .int p1] u (pX7_appeal F p1 u) := by
  refine ctI_of (own := RX7) (cc := cX7_appeal) (n := 3) (ret := (some .int)) (by decide) rfl rfl (Nat.le_of_ble_eq_true rfl) (lv := [(0, .ref (ad 0)), (1, .int p1)]) rfl (fun C => ?_)
  have iX7 : ∀ w ∈ wsX70, w ∈ wsX7_appeal := fun w h => List.mem_cons_of_mem _ (List.mem_append_right _ (inlX7 w h))
  rw [pX7_appeal]
  refine g_aload_n C 0 0 dX7_appeal_0 rfl ?_
  refine g_iload_n C 1 1 dX7_appeal_1 rfl ?_
  refine g_callVi (st := []) (As := [.int p1]) C E0_ok E0_vm 2 0 1 (tX7_isCase F p1 u) rfl gX7_appeal_X7_isCase rfl rfl rfl (by decide +kernel) ⟨Nat.le_of_ble_eq_true rfl, Nat.le_of_ble_eq_true rfl⟩ rfl rfl rfl (Nat.le_of_ble_eq_true rfl) dX7_appeal_2 (fun r2 u1 => ?_)
  refine g_if_ne C 5 10 dX7_appeal_5 (by decide) ?_ ?_
  · skip
    refine g_aload_n C 10 0 dX7_appeal_10 rfl ?_
    refine gfM_X7_state C 11 iX7 (List.mem_cons_of_mem _ (List.mem_append_right _ wgL_5_14.1)) dX7_appeal_11 ?_
    refine g_bipush C 14 24 dX7_appeal_14 rfl ?_
    refine g_iload_n C 16 1 dX7_appeal_16 rfl ?_
    refine g_iadd C 17 dX7_appeal_17 ?_
    refine g_iald C 18 (1 + 0) 0 (wM_arr 0 (by decide)) rfl dX7_appeal_18 ?_
    refine g_if_eq C 19 35 dX7_appeal_19 (by decide) ?_ ?_
    · skip
      refine g_bipush C 35 (-2) dX7_appeal_35 rfl ?_
      exact g_iret C 37 dX7_appeal_37
    · skip
      refine g_aload_n C 22 0 dX7_appeal_22 rfl ?_
      refine gfM_X7_state C 23 iX7 (List.mem_cons_of_mem _ (List.mem_append_right _ wgL_5_14.1)) dX7_appeal_23 ?_
      refine g_bipush C 26 28 dX7_appeal_26 rfl ?_
      refine g_iload_n C 28 1 dX7_appeal_28 rfl ?_
      refine g_iadd C 29 dX7_appeal_29 ?_
      refine g_iald C 30 (1 + 0) 0 (wM_arr 0 (by decide)) rfl dX7_appeal_30 ?_
      refine g_iconst C 31 1 dX7_appeal_31 rfl ?_
      refine g_icmp_ne C 32 38 dX7_appeal_32 (by decide) ?_ ?_
      · skip
        refine g_aload_n C 38 0 dX7_appeal_38 rfl ?_
        refine gfM_X7_state C 39 iX7 (List.mem_cons_of_mem _ (List.mem_append_right _ wgL_5_14.1)) dX7_appeal_39 ?_
        refine g_bipush C 42 24 dX7_appeal_42 rfl ?_
        refine g_iload_n C 44 1 dX7_appeal_44 rfl ?_
        refine g_iadd C 45 dX7_appeal_45 ?_
        refine g_iconst C 46 0 dX7_appeal_46 rfl ?_
        refine g_iast C 47 (1 + 0) 0 0 (wM_arr 0 (by decide)) (wM_aset 0 (by decide)) rfl dX7_appeal_47 (fun u3 => ?_)
        refine g_aload_n C 48 0 dX7_appeal_48 rfl ?_
        refine gfM_X7_state C 49 iX7 (List.mem_cons_of_mem _ (List.mem_append_right _ wgL_5_14.1)) dX7_appeal_49 ?_
        refine g_bipush C 52 28 dX7_appeal_52 rfl ?_
        refine g_iload_n C 54 1 dX7_appeal_54 rfl ?_
        refine g_iadd C 55 dX7_appeal_55 ?_
        refine g_iconst C 56 1 dX7_appeal_56 rfl ?_
        refine g_iast C 57 (1 + 0) 0 0 (wM_arr 0 (by decide)) (wM_aset 0 (by decide)) rfl dX7_appeal_57 (fun u4 => ?_)
        refine g_iconst C 58 2 dX7_appeal_58 rfl ?_
        refine g_iload_n C 59 1 dX7_appeal_59 rfl ?_
        refine g_imul C 60 dX7_appeal_60 ?_
        refine g_istore_nV C 61 (fun v5 => [(2, .int v5), (0, .ref (ad 0)), (1, .int p1)]) dX7_appeal_61 (by decide) (fun _ => rfl) (fun v5 => ?_)
        refine g_jn0 106 ([(0, .ref (ad 0)), (1, .int p1)]) ([]) (fun u6 => ?_) (fun J106 hJ106 => ?_)
        · skip
          rw [jX7_appeal_106]
          refine g_aload_n C 106 0 dX7_appeal_106 rfl ?_
          refine g_iconst C 107 0 dX7_appeal_107 rfl ?_
          refine g_iload_n C 108 1 dX7_appeal_108 rfl ?_
          refine g_callVi (st := []) (As := [.int 0, .int p1]) C E0_ok E0_vm 109 0 2 (tX7_lengthOf F 0 p1 u6) rfl gX7_appeal_X7_lengthOf rfl rfl rfl (by decide +kernel) ⟨Nat.le_of_ble_eq_true rfl, Nat.le_of_ble_eq_true rfl⟩ rfl rfl rfl (Nat.le_of_ble_eq_true rfl) dX7_appeal_109 (fun r8 u7 => ?_)
          exact g_iret C 112 dX7_appeal_112
        · skip
          refine g_sub _ [1, 2, 0] rfl ?_
          refine g_lq1 (fun (x9 : Int32) => [(0, .ref (ad 0)), (1, .int p1), (2, .int x9)]) (fun self11 hself11 x9 u10 => ?_) F v5 u4
          rw [bX7_appeal_62]
          refine g_iload_n C 62 2 dX7_appeal_62 rfl ?_
          refine g_iconst C 63 2 dX7_appeal_63 rfl ?_
          refine g_iload_n C 64 1 dX7_appeal_64 rfl ?_
          refine g_imul C 65 dX7_appeal_65 ?_
          refine g_iconst C 66 2 dX7_appeal_66 rfl ?_
          refine g_iadd C 67 dX7_appeal_67 ?_
          refine g_icmp_ge C 68 106 dX7_appeal_68 (by decide) ?_ ?_
          · skip
            exact g_sub _ [0, 1] rfl (hJ106 u10)
          · skip
            refine g_aload_n C 71 0 dX7_appeal_71 rfl ?_
            refine gfM_X7_state C 72 iX7 (List.mem_cons_of_mem _ (List.mem_append_right _ wgL_5_14.1)) dX7_appeal_72 ?_
            refine g_bipush C 75 8 dX7_appeal_75 rfl ?_
            refine g_iload_n C 77 2 dX7_appeal_77 rfl ?_
            refine g_iadd C 78 dX7_appeal_78 ?_
            refine g_dup2 C 79 dX7_appeal_79 rfl rfl ?_
            refine g_iald C 80 (1 + 0) 0 (wM_arr 0 (by decide)) rfl dX7_appeal_80 ?_
            refine g_aload_n C 81 0 dX7_appeal_81 rfl ?_
            refine gfM_X7_state C 82 iX7 (List.mem_cons_of_mem _ (List.mem_append_right _ wgL_5_14.1)) dX7_appeal_82 ?_
            refine g_bipush C 85 8 dX7_appeal_85 rfl ?_
            refine g_iload_n C 87 2 dX7_appeal_87 rfl ?_
            refine g_iadd C 88 dX7_appeal_88 ?_
            refine g_iald C 89 (1 + 0) 0 (wM_arr 0 (by decide)) rfl dX7_appeal_89 ?_
            refine g_jn1 98 (fun (a12 : Int32) => [(0, .ref (ad 0)), (1, .int p1), (2, .int x9)]) (fun (a12 : Int32) => [.int a12, .int (u10.2 0 (Int32.toNatClampNeg (8 + x9))), .int (8 + x9), .ref (ad (1 + 0))]) (fun a12 u13 => ?_) (fun J98 hJ98 => ?_)
            · skip
              refine g_iadd C 98 dX7_appeal_98 ?_
              refine g_iast C 99 (1 + 0) 0 0 (wM_arr 0 (by decide)) (wM_aset 0 (by decide)) rfl dX7_appeal_99 (fun u14 => ?_)
              refine g_iinc C 100 2 [(2, .int (x9 + 1)), (0, .ref (ad 0)), (1, .int p1)] dX7_appeal_100 rfl rfl (by decide) rfl ?_
              refine g_goto C 103 62 dX7_appeal_103 (by decide) ?_
              exact g_sub _ [1, 2, 0] rfl (hself11 (x9 + 1) u14)
            · skip
              refine g_if_ne C 90 97 dX7_appeal_90 (by decide) ?_ ?_
              · skip
                refine g_iconst C 97 0 dX7_appeal_97 rfl ?_
                exact g_sub _ [0, 1, 2] rfl (hJ98 0 u10)
              · skip
                refine g_iconst C 93 1 dX7_appeal_93 rfl ?_
                refine g_goto C 94 98 dX7_appeal_94 (by decide) ?_
                exact g_sub _ [0, 1, 2] rfl (hJ98 1 u10)
      · skip
        refine g_bipush C 35 (-2) dX7_appeal_35 rfl ?_
        exact g_iret C 37 dX7_appeal_37
  · skip
    refine g_iconst C 8 (-1) dX7_appeal_8 rfl ?_
    exact g_iret C 9 dX7_appeal_9
def bX7_copies_2 (F : Nat) (p1 : Int32) (p2 : Int32) (self3 : Int32 → St → Option (Unit × St)) (x1 : Int32) (u2 : St) : Option (Unit × St) :=
  if 68 ≤ x1 then some ((), u2) else gd (inb (p1 + x1) 408) (gd (inb (p2 + x1) 408) (vl (sta u2 0 (p2 + x1) (u2.2 0 (Int32.toNatClampNeg (p1 + x1)))) (fun (u4 : St) => (self3 (x1 + 1) u4))))
def pX7_copies (F : Nat) (p1 : Int32) (p2 : Int32) (u : St) : Option (Unit × St) :=
  (lq1 (bX7_copies_2 F p1 p2) F 0 u)
set_option maxRecDepth 100000 in
set_option maxHeartbeats 4000000 in
theorem tX7_copies {l : Launch} {D : va_G} {cI cZ : ClassId} {ad : Nat → Nat} (F : Nat) (p1 : Int32) (p2 : Int32) (u : St) : CtV l D [(cI, .int), (cZ, .boolean)] (wM ad cI cZ) E0 yX7_copies wsX7_copies ({ frames := 0, cells := 0, slots := 0, locals := 0 } : Room) [.ref (ad 0), .int p1, .int p2] u (pX7_copies F p1 p2 u) := by
  refine ctV_of (own := RX7) (cc := cX7_copies) (n := 4) (ret := none) (by decide) rfl rfl (Nat.le_of_ble_eq_true rfl) (lv := [(0, .ref (ad 0)), (1, .int p1), (2, .int p2)]) rfl (fun C => ?_)
  have iX7 : ∀ w ∈ wsX70, w ∈ wsX7_copies := fun w h => List.mem_cons_of_mem _ (List.mem_append_right _ (inlX7 w h))
  rw [pX7_copies]
  refine g_iconst C 0 0 dX7_copies_0 rfl ?_
  refine g_istore_n C 1 [(3, .int 0), (0, .ref (ad 0)), (1, .int p1), (2, .int p2)] dX7_copies_1 (by decide) rfl ?_
  refine g_sub _ [1, 2, 3, 0] rfl ?_
  refine g_lq1 (fun (x1 : Int32) => [(0, .ref (ad 0)), (1, .int p1), (2, .int p2), (3, .int x1)]) (fun self3 hself3 x1 u2 => ?_) F 0 u
  rw [bX7_copies_2]
  refine g_iload_n C 2 3 dX7_copies_2 rfl ?_
  refine g_bipush C 3 68 dX7_copies_3 rfl ?_
  refine g_icmp_ge C 5 30 dX7_copies_5 (by decide) ?_ ?_
  · skip
    exact g_vret C 30 dX7_copies_30
  · skip
    refine g_aload_n C 8 0 dX7_copies_8 rfl ?_
    refine gfM_X7_state C 9 iX7 (List.mem_cons_of_mem _ (List.mem_append_right _ wgL_5_14.1)) dX7_copies_9 ?_
    refine g_iload_n C 12 2 dX7_copies_12 rfl ?_
    refine g_iload_n C 13 3 dX7_copies_13 rfl ?_
    refine g_iadd C 14 dX7_copies_14 ?_
    refine g_aload_n C 15 0 dX7_copies_15 rfl ?_
    refine gfM_X7_state C 16 iX7 (List.mem_cons_of_mem _ (List.mem_append_right _ wgL_5_14.1)) dX7_copies_16 ?_
    refine g_iload_n C 19 1 dX7_copies_19 rfl ?_
    refine g_iload_n C 20 3 dX7_copies_20 rfl ?_
    refine g_iadd C 21 dX7_copies_21 ?_
    refine g_iald C 22 (1 + 0) 0 (wM_arr 0 (by decide)) rfl dX7_copies_22 ?_
    refine g_iast C 23 (1 + 0) 0 0 (wM_arr 0 (by decide)) (wM_aset 0 (by decide)) rfl dX7_copies_23 (fun u4 => ?_)
    refine g_iinc C 24 3 [(3, .int (x1 + 1)), (0, .ref (ad 0)), (1, .int p1), (2, .int p2)] dX7_copies_24 rfl rfl (by decide) rfl ?_
    refine g_goto C 27 2 dX7_copies_27 (by decide) ?_
    exact g_sub _ [1, 2, 3, 0] rfl (hself3 (x1 + 1) u4)
def pX7_tries (F : Nat) (p1 : Int32) (p2 : Int32) (p3 : Int32) (u : St) : Option (Int32 × St) :=
  bd (pX7_copies F p1 272 u) (fun (_ : Unit) (u1 : St) => bd (pX7_hearsOn F 272 p2 p3 u1) (fun (r3 : Int32) (u2 : St) => some (r3, u2)))
set_option maxRecDepth 100000 in
set_option maxHeartbeats 4000000 in
theorem tX7_tries {l : Launch} {D : va_G} {cI cZ : ClassId} {ad : Nat → Nat} (F : Nat) (p1 : Int32) (p2 : Int32) (p3 : Int32) (u : St) : CtI l D [(cI, .int), (cZ, .boolean)] (wM ad cI cZ) E0 yX7_tries wsX7_tries ({ frames := 3, cells := 0, slots := 0, locals := 75 } : Room) [.ref (ad 0), .int p1, .int p2, .int p3] u (pX7_tries F p1 p2 p3 u) := by
  refine ctI_of (own := RX7) (cc := cX7_tries) (n := 4) (ret := (some .int)) (by decide) rfl rfl (Nat.le_of_ble_eq_true rfl) (lv := [(0, .ref (ad 0)), (1, .int p1), (2, .int p2), (3, .int p3)]) rfl (fun C => ?_)
  rw [pX7_tries]
  refine g_aload_n C 0 0 dX7_tries_0 rfl ?_
  refine g_iload_n C 1 1 dX7_tries_1 rfl ?_
  refine g_sipush C 2 272 dX7_tries_2 rfl ?_
  refine g_callVv (st := []) (As := [.int p1, .int 272]) C E0_ok E0_vm 5 0 2 (tX7_copies F p1 272 u) rfl gX7_tries_X7_copies rfl rfl rfl (by decide +kernel) ⟨Nat.le_of_ble_eq_true rfl, Nat.le_of_ble_eq_true rfl⟩ rfl rfl rfl (Nat.le_of_ble_eq_true rfl) dX7_tries_5 (fun u1 => ?_)
  refine g_aload_n C 8 0 dX7_tries_8 rfl ?_
  refine g_sipush C 9 272 dX7_tries_9 rfl ?_
  refine g_iload_n C 12 2 dX7_tries_12 rfl ?_
  refine g_iload_n C 13 3 dX7_tries_13 rfl ?_
  refine g_callVi (st := []) (As := [.int 272, .int p2, .int p3]) C E0_ok E0_vm 14 0 3 (tX7_hearsOn F 272 p2 p3 u1) rfl gX7_tries_X7_hearsOn rfl rfl rfl (by decide +kernel) ⟨Nat.le_of_ble_eq_true rfl, Nat.le_of_ble_eq_true rfl⟩ rfl rfl rfl (Nat.le_of_ble_eq_true rfl) dX7_tries_14 (fun r3 u2 => ?_)
  exact g_iret C 17 dX7_tries_17
def pX7_foretell (F : Nat) (p1 : Int32) (p2 : Int32) (p3 : Int32) (u : St) : Option (Int32 × St) :=
  bd (pX7_isHeard F p1 p2 u) (fun (r2 : Int32) (u1 : St) => if r2 = 0 then some ((-1), u1) else bd (pX7_in F (Int32.toInt64 p3) 0 2 u1) (fun (r4 : Int32) (u3 : St) => if r4 = 0 then some ((-1), u3) else bd (pX7_tries F 0 p1 p2 u3) (fun (r6 : Int32) (u5 : St) => if p3 = 0 then some (r6, u5) else if p3 = 1 then some ((u5.1 18), u5) else bd (pX7_lengthOf F 272 p1 u5) (fun (r8 : Int32) (u7 : St) => some (r8, u7)))))
set_option maxRecDepth 100000 in
set_option maxHeartbeats 4000000 in
theorem tX7_foretell {l : Launch} {D : va_G} {cI cZ : ClassId} {ad : Nat → Nat} (F : Nat) (p1 : Int32) (p2 : Int32) (p3 : Int32) (u : St) : CtI l D [(cI, .int), (cZ, .boolean)] (wM ad cI cZ) E0 yX7_foretell wsX7_foretell ({ frames := 4, cells := 0, slots := 0, locals := 98 } : Room) [.ref (ad 0), .int p1, .int p2, .int p3] u (pX7_foretell F p1 p2 p3 u) := by
  refine ctI_of (own := RX7) (cc := cX7_foretell) (n := 5) (ret := (some .int)) (by decide) rfl rfl (Nat.le_of_ble_eq_true rfl) (lv := [(0, .ref (ad 0)), (1, .int p1), (2, .int p2), (3, .int p3)]) rfl (fun C => ?_)
  have iX7 : ∀ w ∈ wsX70, w ∈ wsX7_foretell := fun w h => List.mem_cons_of_mem _ (List.mem_append_right _ (inlX7 w h))
  rw [pX7_foretell]
  refine g_aload_n C 0 0 dX7_foretell_0 rfl ?_
  refine g_iload_n C 1 1 dX7_foretell_1 rfl ?_
  refine g_iload_n C 2 2 dX7_foretell_2 rfl ?_
  refine g_callVi (st := []) (As := [.int p1, .int p2]) C E0_ok E0_vm 3 0 2 (tX7_isHeard F p1 p2 u) rfl gX7_foretell_X7_isHeard rfl rfl rfl (by decide +kernel) ⟨Nat.le_of_ble_eq_true rfl, Nat.le_of_ble_eq_true rfl⟩ rfl rfl rfl (Nat.le_of_ble_eq_true rfl) dX7_foretell_3 (fun r2 u1 => ?_)
  refine g_if_eq C 6 21 dX7_foretell_6 (by decide) ?_ ?_
  · skip
    refine g_iconst C 21 (-1) dX7_foretell_21 rfl ?_
    exact g_iret C 22 dX7_foretell_22
  · skip
    refine g_iload_n C 9 3 dX7_foretell_9 rfl ?_
    refine g_i2l C 10 dX7_foretell_10 ?_
    refine g_lconst C 11 0 dX7_foretell_11 rfl ?_
    refine g_ldc2 C 12 2 (by decide +kernel) dX7_foretell_12 ?_
    refine g_callSi (st := []) (As := [.long (Int32.toInt64 p3), .long 0, .long 2]) C E0_ok E0_vm 15 3 (tX7_in F (Int32.toInt64 p3) 0 2 u1) rfl gX7_foretell_X7_in rfl rfl rfl (by decide +kernel) ⟨Nat.le_of_ble_eq_true rfl, Nat.le_of_ble_eq_true rfl⟩ rfl (Nat.le_of_ble_eq_true rfl) dX7_foretell_15 (fun r4 u3 => ?_)
    refine g_if_ne C 18 23 dX7_foretell_18 (by decide) ?_ ?_
    · skip
      refine g_aload_n C 23 0 dX7_foretell_23 rfl ?_
      refine g_iconst C 24 0 dX7_foretell_24 rfl ?_
      refine g_iload_n C 25 1 dX7_foretell_25 rfl ?_
      refine g_iload_n C 26 2 dX7_foretell_26 rfl ?_
      refine g_callVi (st := []) (As := [.int 0, .int p1, .int p2]) C E0_ok E0_vm 27 0 3 (tX7_tries F 0 p1 p2 u3) rfl gX7_foretell_X7_tries rfl rfl rfl (by decide +kernel) ⟨Nat.le_of_ble_eq_true rfl, Nat.le_of_ble_eq_true rfl⟩ rfl rfl rfl (Nat.le_of_ble_eq_true rfl) dX7_foretell_27 (fun r6 u5 => ?_)
      refine g_istore C 30 [(4, .int r6), (0, .ref (ad 0)), (1, .int p1), (2, .int p2), (3, .int p3)] dX7_foretell_30 (by decide) rfl ?_
      refine g_iload_n C 32 4 dX7_foretell_32 rfl ?_
      refine g_if_ne C 33 41 dX7_foretell_33 (by decide) ?_ ?_
      · skip
        refine g_iload_n C 41 4 dX7_foretell_41 rfl ?_
        refine g_iconst C 42 1 dX7_foretell_42 rfl ?_
        refine g_icmp_ne C 43 53 dX7_foretell_43 (by decide) ?_ ?_
        · skip
          refine g_aload_n C 53 1 dX7_foretell_53 rfl ?_
          refine g_sipush C 54 272 dX7_foretell_54 rfl ?_
          refine g_iload_n C 57 2 dX7_foretell_57 rfl ?_
          refine g_callVi (st := []) (As := [.int 272, .int p1]) C E0_ok E0_vm 58 0 2 (tX7_lengthOf F 272 p1 u5) rfl gX7_foretell_X7_lengthOf rfl rfl rfl (by decide +kernel) ⟨Nat.le_of_ble_eq_true rfl, Nat.le_of_ble_eq_true rfl⟩ rfl rfl rfl (Nat.le_of_ble_eq_true rfl) dX7_foretell_58 (fun r8 u7 => ?_)
          exact g_iret C 61 dX7_foretell_61
        · skip
          refine g_aload_n C 46 1 dX7_foretell_46 rfl ?_
          refine gfM_X7_endedAt C 47 iX7 (List.mem_cons_of_mem _ (List.mem_append_right _ wgL_27_12.1)) dX7_foretell_47 ?_
          refine g_goto C 50 61 dX7_foretell_50 (by decide) ?_
          exact g_iret C 61 dX7_foretell_61
      · skip
        refine g_iload C 36 0 dX7_foretell_36 rfl ?_
        refine g_goto C 38 61 dX7_foretell_38 (by decide) ?_
        exact g_iret C 61 dX7_foretell_61
    · skip
      refine g_iconst C 21 (-1) dX7_foretell_21 rfl ?_
      exact g_iret C 22 dX7_foretell_22
def bX7_docketGoes_21 (F : Nat) (p1 : Int32) (self6 : Int32 → St → Option (Unit × St)) (x4 : Int32) (u5 : St) : Option (Unit × St) :=
  gd (inb (p1 + 55) 408) (if (u5.2 0 (Int32.toNatClampNeg (p1 + 55))) ≤ x4 then some ((), u5) else gd (inb ((p1 + 56) + x4) 408) (vl (u5.2 0 (Int32.toNatClampNeg ((p1 + 56) + x4))) (fun v7 => gd (inb (296 + v7) 408) (jn (fun (u8 : St) => (self6 (x4 + 1) u8)) (fun (J118 : St → Option (Unit × St)) => if (u5.2 0 (Int32.toNatClampNeg (296 + v7))) = 0 then gd (inb ((p1 + 62) + x4) 408) (bd (pX7_judgesOn F 272 v7 (u5.2 0 (Int32.toNatClampNeg ((p1 + 62) + x4))) u5) (fun (r10 : Int32) (u9 : St) => vl (stf u9 20 ((u9.1 20) + ((u9.1 18) + 1))) (fun (u11 : St) => (J118 u11)))) else jn (fun (a12 : Int32) (u13 : St) => vl (stf u13 19 a12) (fun (u14 : St) => (J118 u14))) (fun (J77 : Int32 → St → Option (Unit × St)) => if (u5.1 19) = (-4) then (J77 x4 u5) else (J77 (u5.1 19) u5)))))))
def pX7_docketGoes (F : Nat) (p1 : Int32) (u : St) : Option (Unit × St) :=
  bd (pX7_copies F p1 272 u) (fun (_ : Unit) (u1 : St) => vl (stf u1 19 (-4)) (fun (u2 : St) => vl (stf u2 20 0) (fun (u3 : St) => (lq1 (bX7_docketGoes_21 F p1) F 0 u3))))
set_option maxRecDepth 100000 in
set_option maxHeartbeats 4000000 in
theorem tX7_docketGoes {l : Launch} {D : va_G} {cI cZ : ClassId} {ad : Nat → Nat} (F : Nat) (p1 : Int32) (u : St) : CtV l D [(cI, .int), (cZ, .boolean)] (wM ad cI cZ) E0 yX7_docketGoes wsX7_docketGoes ({ frames := 4, cells := 0, slots := 0, locals := 99 } : Room) [.ref (ad 0), .int p1] u (pX7_docketGoes F p1 u) := by
  refine ctV_of (own := RX7) (cc := cX7_docketGoes) (n := 4) (ret := none) (by decide) rfl rfl (Nat.le_of_ble_eq_true rfl) (lv := [(0, .ref (ad 0)), (1, .int p1)]) rfl (fun C => ?_)
  have iX7 : ∀ w ∈ wsX70, w ∈ wsX7_docketGoes := fun w h => List.mem_cons_of_mem _ (List.mem_append_right _ (inlX7 w h))
  rw [pX7_docketGoes]
  refine g_aload_n C 0 0 dX7_docketGoes_0 rfl ?_
  refine g_iload_n C 1 1 dX7_docketGoes_1 rfl ?_
  refine g_sipush C 2 272 dX7_docketGoes_2 rfl ?_
  refine g_callVv (st := []) (As := [.int p1, .int 272]) C E0_ok E0_vm 5 0 2 (tX7_copies F p1 272 u) rfl gX7_docketGoes_X7_copies rfl rfl rfl (by decide +kernel) ⟨Nat.le_of_ble_eq_true rfl, Nat.le_of_ble_eq_true rfl⟩ rfl rfl rfl (Nat.le_of_ble_eq_true rfl) dX7_docketGoes_5 (fun u1 => ?_)
  refine g_aload_n C 8 0 dX7_docketGoes_8 rfl ?_
  refine g_bipush C 9 (-4) dX7_docketGoes_9 rfl ?_
  refine pfM_X7_firstNot C 11 iX7 (List.mem_cons_of_mem _ (List.mem_append_right _ wgL_30_16.1)) dX7_docketGoes_11 (fun u2 => ?_)
  refine g_aload_n C 14 0 dX7_docketGoes_14 rfl ?_
  refine g_iconst C 15 0 dX7_docketGoes_15 rfl ?_
  refine pfM_X7_minutes C 16 iX7 (List.mem_cons_of_mem _ (List.mem_append_right _ wgL_30_17.1)) dX7_docketGoes_16 (fun u3 => ?_)
  refine g_iconst C 19 0 dX7_docketGoes_19 rfl ?_
  refine g_istore_n C 20 [(2, .int 0), (0, .ref (ad 0)), (1, .int p1)] dX7_docketGoes_20 (by decide) rfl ?_
  refine g_sub _ [1, 2, 0] rfl ?_
  refine g_lq1 (fun (x4 : Int32) => [(0, .ref (ad 0)), (1, .int p1), (2, .int x4)]) (fun self6 hself6 x4 u5 => ?_) F 0 u3
  rw [bX7_docketGoes_21]
  refine g_iload_n C 21 2 dX7_docketGoes_21 rfl ?_
  refine g_aload_n C 22 0 dX7_docketGoes_22 rfl ?_
  refine gfM_X7_state C 23 iX7 (List.mem_cons_of_mem _ (List.mem_append_right _ wgL_5_14.1)) dX7_docketGoes_23 ?_
  refine g_iload_n C 26 1 dX7_docketGoes_26 rfl ?_
  refine g_bipush C 27 55 dX7_docketGoes_27 rfl ?_
  refine g_iadd C 29 dX7_docketGoes_29 ?_
  refine g_iald C 30 (1 + 0) 0 (wM_arr 0 (by decide)) rfl dX7_docketGoes_30 ?_
  refine g_icmp_ge C 31 124 dX7_docketGoes_31 (by decide) ?_ ?_
  · skip
    exact g_vret C 124 dX7_docketGoes_124
  · skip
    refine g_aload_n C 34 0 dX7_docketGoes_34 rfl ?_
    refine gfM_X7_state C 35 iX7 (List.mem_cons_of_mem _ (List.mem_append_right _ wgL_5_14.1)) dX7_docketGoes_35 ?_
    refine g_iload_n C 38 1 dX7_docketGoes_38 rfl ?_
    refine g_bipush C 39 56 dX7_docketGoes_39 rfl ?_
    refine g_iadd C 41 dX7_docketGoes_41 ?_
    refine g_iload_n C 42 2 dX7_docketGoes_42 rfl ?_
    refine g_iadd C 43 dX7_docketGoes_43 ?_
    refine g_iald C 44 (1 + 0) 0 (wM_arr 0 (by decide)) rfl dX7_docketGoes_44 ?_
    refine g_istore_nV C 45 (fun v7 => [(3, .int v7), (0, .ref (ad 0)), (1, .int p1), (2, .int x4)]) dX7_docketGoes_45 (by decide) (fun _ => rfl) (fun v7 => ?_)
    refine g_aload_n C 46 1 dX7_docketGoes_46 rfl ?_
    refine gfM_X7_state C 47 iX7 (List.mem_cons_of_mem _ (List.mem_append_right _ wgL_5_14.1)) dX7_docketGoes_47 ?_
    refine g_sipush C 50 296 dX7_docketGoes_50 rfl ?_
    refine g_iload_n C 53 0 dX7_docketGoes_53 rfl ?_
    refine g_iadd C 54 dX7_docketGoes_54 ?_
    refine g_iald C 55 (1 + 0) 0 (wM_arr 0 (by decide)) rfl dX7_docketGoes_55 ?_
    refine g_jn0 118 ([(0, .ref (ad 0)), (1, .int p1), (2, .int x4)]) ([]) (fun u8 => ?_) (fun J118 hJ118 => ?_)
    · skip
      refine g_iinc C 118 2 [(2, .int (x4 + 1)), (0, .ref (ad 0)), (1, .int p1)] dX7_docketGoes_118 rfl rfl (by decide) rfl ?_
      refine g_goto C 121 21 dX7_docketGoes_121 (by decide) ?_
      exact g_sub _ [1, 2, 0] rfl (hself6 (x4 + 1) u8)
    · skip
      refine g_if_eq C 56 83 dX7_docketGoes_56 (by decide) ?_ ?_
      · skip
        refine g_aload_n C 83 1 dX7_docketGoes_83 rfl ?_
        refine g_sipush C 84 272 dX7_docketGoes_84 rfl ?_
        refine g_iload_n C 87 0 dX7_docketGoes_87 rfl ?_
        refine g_aload_n C 88 1 dX7_docketGoes_88 rfl ?_
        refine gfM_X7_state C 89 iX7 (List.mem_cons_of_mem _ (List.mem_append_right _ wgL_5_14.1)) dX7_docketGoes_89 ?_
        refine g_iload_n C 92 2 dX7_docketGoes_92 rfl ?_
        refine g_bipush C 93 62 dX7_docketGoes_93 rfl ?_
        refine g_iadd C 95 dX7_docketGoes_95 ?_
        refine g_iload_n C 96 3 dX7_docketGoes_96 rfl ?_
        refine g_iadd C 97 dX7_docketGoes_97 ?_
        refine g_iald C 98 (1 + 0) 0 (wM_arr 0 (by decide)) rfl dX7_docketGoes_98 ?_
        refine g_callVi (st := []) (As := [.int 272, .int v7, .int (u5.2 0 (Int32.toNatClampNeg ((p1 + 62) + x4)))]) C E0_ok E0_vm 99 0 3 (tX7_judgesOn F 272 v7 (u5.2 0 (Int32.toNatClampNeg ((p1 + 62) + x4))) u5) rfl gX7_docketGoes_X7_judgesOn rfl rfl rfl (by decide +kernel) ⟨Nat.le_of_ble_eq_true rfl, Nat.le_of_ble_eq_true rfl⟩ rfl rfl rfl (Nat.le_of_ble_eq_true rfl) dX7_docketGoes_99 (fun r10 u9 => ?_)
        refine g_pop C 102 dX7_docketGoes_102 rfl ?_
        refine g_aload_n C 103 1 dX7_docketGoes_103 rfl ?_
        refine g_dup C 104 dX7_docketGoes_104 rfl ?_
        refine gfM_X7_minutes C 105 iX7 (List.mem_cons_of_mem _ (List.mem_append_right _ wgL_30_17.1)) dX7_docketGoes_105 ?_
        refine g_aload_n C 108 1 dX7_docketGoes_108 rfl ?_
        refine gfM_X7_endedAt C 109 iX7 (List.mem_cons_of_mem _ (List.mem_append_right _ wgL_27_12.1)) dX7_docketGoes_109 ?_
        refine g_iconst C 112 1 dX7_docketGoes_112 rfl ?_
        refine g_iadd C 113 dX7_docketGoes_113 ?_
        refine g_iadd C 114 dX7_docketGoes_114 ?_
        refine pfM_X7_minutes C 115 iX7 (List.mem_cons_of_mem _ (List.mem_append_right _ wgL_30_17.1)) dX7_docketGoes_115 (fun u11 => ?_)
        exact g_sub _ [1, 2, 3] rfl (hJ118 u11)
      · skip
        refine g_aload_n C 59 1 dX7_docketGoes_59 rfl ?_
        refine g_aload_n C 60 1 dX7_docketGoes_60 rfl ?_
        refine gfM_X7_firstNot C 61 iX7 (List.mem_cons_of_mem _ (List.mem_append_right _ wgL_30_16.1)) dX7_docketGoes_61 ?_
        refine g_bipush C 64 (-4) dX7_docketGoes_64 rfl ?_
        refine g_jn1 77 (fun (a12 : Int32) => [(0, .ref (ad 0)), (1, .int p1), (2, .int x4)]) (fun (a12 : Int32) => [.int a12, .ref (ad 0)]) (fun a12 u13 => ?_) (fun J77 hJ77 => ?_)
        · skip
          refine pfM_X7_firstNot C 77 iX7 (List.mem_cons_of_mem _ (List.mem_append_right _ wgL_30_16.1)) dX7_docketGoes_77 (fun u14 => ?_)
          refine g_goto C 80 118 dX7_docketGoes_80 (by decide) ?_
          exact g_sub _ [0, 1, 2] rfl (hJ118 u14)
        · skip
          refine g_icmp_ne C 66 73 dX7_docketGoes_66 (by decide) ?_ ?_
          · skip
            refine g_aload_n C 73 1 dX7_docketGoes_73 rfl ?_
            refine gfM_X7_firstNot C 74 iX7 (List.mem_cons_of_mem _ (List.mem_append_right _ wgL_30_16.1)) dX7_docketGoes_74 ?_
            exact g_sub _ [1, 2, 3] rfl (hJ77 (u5.1 19) u5)
          · skip
            refine g_iload_n C 69 3 dX7_docketGoes_69 rfl ?_
            refine g_goto C 70 77 dX7_docketGoes_70 (by decide) ?_
            exact g_sub _ [1, 2, 3] rfl (hJ77 x4 u5)
def pX7_runs (F : Nat) (p1 : Int32) (u : St) : Option (Int32 × St) :=
  bd (pX7_in F (Int32.toInt64 p1) 0 4 u) (fun (r2 : Int32) (u1 : St) => if r2 = 0 then some ((-1), u1) else bd (pX7_docketGoes F 0 u1) (fun (_ : Unit) (u3 : St) => if 3 ≤ p1 then if p1 = 3 then some ((u3.1 19), u3) else some ((u3.1 20), u3) else bd (pX7_wonOn F 272 (p1 + 1) u3) (fun (r5 : Int32) (u4 : St) => some (r5, u4))))
set_option maxRecDepth 100000 in
set_option maxHeartbeats 4000000 in
theorem tX7_runs {l : Launch} {D : va_G} {cI cZ : ClassId} {ad : Nat → Nat} (F : Nat) (p1 : Int32) (u : St) : CtI l D [(cI, .int), (cZ, .boolean)] (wM ad cI cZ) E0 yX7_runs wsX7_runs ({ frames := 5, cells := 0, slots := 0, locals := 122 } : Room) [.ref (ad 0), .int p1] u (pX7_runs F p1 u) := by
  refine ctI_of (own := RX7) (cc := cX7_runs) (n := 2) (ret := (some .int)) (by decide) rfl rfl (Nat.le_of_ble_eq_true rfl) (lv := [(0, .ref (ad 0)), (1, .int p1)]) rfl (fun C => ?_)
  have iX7 : ∀ w ∈ wsX70, w ∈ wsX7_runs := fun w h => List.mem_cons_of_mem _ (List.mem_append_right _ (inlX7 w h))
  rw [pX7_runs]
  refine g_iload_n C 0 1 dX7_runs_0 rfl ?_
  refine g_i2l C 1 dX7_runs_1 ?_
  refine g_lconst C 2 0 dX7_runs_2 rfl ?_
  refine g_ldc2 C 3 4 (by decide +kernel) dX7_runs_3 ?_
  refine g_callSi (st := []) (As := [.long (Int32.toInt64 p1), .long 0, .long 4]) C E0_ok E0_vm 6 3 (tX7_in F (Int32.toInt64 p1) 0 4 u) rfl gX7_runs_X7_in rfl rfl rfl (by decide +kernel) ⟨Nat.le_of_ble_eq_true rfl, Nat.le_of_ble_eq_true rfl⟩ rfl (Nat.le_of_ble_eq_true rfl) dX7_runs_6 (fun r2 u1 => ?_)
  refine g_if_ne C 9 14 dX7_runs_9 (by decide) ?_ ?_
  · skip
    refine g_aload_n C 14 0 dX7_runs_14 rfl ?_
    refine g_iconst C 15 0 dX7_runs_15 rfl ?_
    refine g_callVv (st := []) (As := [.int 0]) C E0_ok E0_vm 16 0 1 (tX7_docketGoes F 0 u1) rfl gX7_runs_X7_docketGoes rfl rfl rfl (by decide +kernel) ⟨Nat.le_of_ble_eq_true rfl, Nat.le_of_ble_eq_true rfl⟩ rfl rfl rfl (Nat.le_of_ble_eq_true rfl) dX7_runs_16 (fun u3 => ?_)
    refine g_iload_n C 19 1 dX7_runs_19 rfl ?_
    refine g_iconst C 20 3 dX7_runs_20 rfl ?_
    refine g_icmp_ge C 21 37 dX7_runs_21 (by decide) ?_ ?_
    · skip
      refine g_iload_n C 37 1 dX7_runs_37 rfl ?_
      refine g_iconst C 38 3 dX7_runs_38 rfl ?_
      refine g_icmp_ne C 39 49 dX7_runs_39 (by decide) ?_ ?_
      · skip
        refine g_aload_n C 49 0 dX7_runs_49 rfl ?_
        refine gfM_X7_minutes C 50 iX7 (List.mem_cons_of_mem _ (List.mem_append_right _ wgL_30_17.1)) dX7_runs_50 ?_
        exact g_iret C 53 dX7_runs_53
      · skip
        refine g_aload_n C 42 0 dX7_runs_42 rfl ?_
        refine gfM_X7_firstNot C 43 iX7 (List.mem_cons_of_mem _ (List.mem_append_right _ wgL_30_16.1)) dX7_runs_43 ?_
        refine g_goto C 46 53 dX7_runs_46 (by decide) ?_
        exact g_iret C 53 dX7_runs_53
    · skip
      refine g_aload_n C 24 0 dX7_runs_24 rfl ?_
      refine g_sipush C 25 272 dX7_runs_25 rfl ?_
      refine g_iload_n C 28 1 dX7_runs_28 rfl ?_
      refine g_iconst C 29 1 dX7_runs_29 rfl ?_
      refine g_iadd C 30 dX7_runs_30 ?_
      refine g_callVi (st := []) (As := [.int 272, .int (p1 + 1)]) C E0_ok E0_vm 31 0 2 (tX7_wonOn F 272 (p1 + 1) u3) rfl gX7_runs_X7_wonOn rfl rfl rfl (by decide +kernel) ⟨Nat.le_of_ble_eq_true rfl, Nat.le_of_ble_eq_true rfl⟩ rfl rfl rfl (Nat.le_of_ble_eq_true rfl) dX7_runs_31 (fun r5 u4 => ?_)
      refine g_goto C 34 53 dX7_runs_34 (by decide) ?_
      exact g_iret C 53 dX7_runs_53
  · skip
    refine g_iconst C 12 (-1) dX7_runs_12 rfl ?_
    exact g_iret C 13 dX7_runs_13
def pX7_ahead (F : Nat) (p1 : Int32) (u : St) : Option (Int32 × St) :=
  bd (pX7_isCase F p1 u) (fun (r2 : Int32) (u1 : St) => if r2 = 0 then some ((-1), u1) else bd (pX7_docketGoes F 0 u1) (fun (_ : Unit) (u3 : St) => gd (inb (296 + p1) 408) (some ((u3.2 0 (Int32.toNatClampNeg (296 + p1))), u3))))
set_option maxRecDepth 100000 in
set_option maxHeartbeats 4000000 in
theorem tX7_ahead {l : Launch} {D : va_G} {cI cZ : ClassId} {ad : Nat → Nat} (F : Nat) (p1 : Int32) (u : St) : CtI l D [(cI, .int), (cZ, .boolean)] (wM ad cI cZ) E0 yX7_ahead wsX7_ahead ({ frames := 5, cells := 0, slots := 0, locals := 122 } : Room) [.ref (ad 0), .int p1] u (pX7_ahead F p1 u) := by
  refine ctI_of (own := RX7) (cc := cX7_ahead) (n := 2) (ret := (some .int)) (by decide) rfl rfl (Nat.le_of_ble_eq_true rfl) (lv := [(0, .ref (ad 0)), (1, .int p1)]) rfl (fun C => ?_)
  have iX7 : ∀ w ∈ wsX70, w ∈ wsX7_ahead := fun w h => List.mem_cons_of_mem _ (List.mem_append_right _ (inlX7 w h))
  rw [pX7_ahead]
  refine g_aload_n C 0 0 dX7_ahead_0 rfl ?_
  refine g_iload_n C 1 1 dX7_ahead_1 rfl ?_
  refine g_callVi (st := []) (As := [.int p1]) C E0_ok E0_vm 2 0 1 (tX7_isCase F p1 u) rfl gX7_ahead_X7_isCase rfl rfl rfl (by decide +kernel) ⟨Nat.le_of_ble_eq_true rfl, Nat.le_of_ble_eq_true rfl⟩ rfl rfl rfl (Nat.le_of_ble_eq_true rfl) dX7_ahead_2 (fun r2 u1 => ?_)
  refine g_if_ne C 5 10 dX7_ahead_5 (by decide) ?_ ?_
  · skip
    refine g_aload_n C 10 0 dX7_ahead_10 rfl ?_
    refine g_iconst C 11 0 dX7_ahead_11 rfl ?_
    refine g_callVv (st := []) (As := [.int 0]) C E0_ok E0_vm 12 0 1 (tX7_docketGoes F 0 u1) rfl gX7_ahead_X7_docketGoes rfl rfl rfl (by decide +kernel) ⟨Nat.le_of_ble_eq_true rfl, Nat.le_of_ble_eq_true rfl⟩ rfl rfl rfl (Nat.le_of_ble_eq_true rfl) dX7_ahead_12 (fun u3 => ?_)
    refine g_aload_n C 15 0 dX7_ahead_15 rfl ?_
    refine gfM_X7_state C 16 iX7 (List.mem_cons_of_mem _ (List.mem_append_right _ wgL_5_14.1)) dX7_ahead_16 ?_
    refine g_sipush C 19 296 dX7_ahead_19 rfl ?_
    refine g_iload_n C 22 1 dX7_ahead_22 rfl ?_
    refine g_iadd C 23 dX7_ahead_23 ?_
    refine g_iald C 24 (1 + 0) 0 (wM_arr 0 (by decide)) rfl dX7_ahead_24 ?_
    exact g_iret C 25 dX7_ahead_25
  · skip
    refine g_iconst C 8 (-1) dX7_ahead_8 rfl ?_
    exact g_iret C 9 dX7_ahead_9
def pX7_isWonBy (F : Nat) (p1 : Int32) (p2 : Int32) (p3 : Int32) (p4 : Int32) (u : St) : Option (Int32 × St) :=
  bd (pX7_tries F p1 p2 p4 u) (fun (r2 : Int32) (u1 : St) => if r2 = (p3 + 1) then some (1, u1) else some (0, u1))
set_option maxRecDepth 100000 in
set_option maxHeartbeats 4000000 in
theorem tX7_isWonBy {l : Launch} {D : va_G} {cI cZ : ClassId} {ad : Nat → Nat} (F : Nat) (p1 : Int32) (p2 : Int32) (p3 : Int32) (p4 : Int32) (u : St) : CtI l D [(cI, .int), (cZ, .boolean)] (wM ad cI cZ) E0 yX7_isWonBy wsX7_isWonBy ({ frames := 4, cells := 0, slots := 0, locals := 98 } : Room) [.ref (ad 0), .int p1, .int p2, .int p3, .int p4] u (pX7_isWonBy F p1 p2 p3 p4 u) := by
  refine ctI_of (own := RX7) (cc := cX7_isWonBy) (n := 5) (ret := (some .boolean)) (by decide) rfl rfl (Nat.le_of_ble_eq_true rfl) (lv := [(0, .ref (ad 0)), (1, .int p1), (2, .int p2), (3, .int p3), (4, .int p4)]) rfl (fun C => ?_)
  rw [pX7_isWonBy]
  refine g_aload_n C 0 0 dX7_isWonBy_0 rfl ?_
  refine g_iload_n C 1 1 dX7_isWonBy_1 rfl ?_
  refine g_iload_n C 2 2 dX7_isWonBy_2 rfl ?_
  refine g_iload C 3 4 dX7_isWonBy_3 rfl ?_
  refine g_callVi (st := []) (As := [.int p1, .int p2, .int p4]) C E0_ok E0_vm 5 0 3 (tX7_tries F p1 p2 p4 u) rfl gX7_isWonBy_X7_tries rfl rfl rfl (by decide +kernel) ⟨Nat.le_of_ble_eq_true rfl, Nat.le_of_ble_eq_true rfl⟩ rfl rfl rfl (Nat.le_of_ble_eq_true rfl) dX7_isWonBy_5 (fun r2 u1 => ?_)
  refine g_iload_n C 8 3 dX7_isWonBy_8 rfl ?_
  refine g_iconst C 9 1 dX7_isWonBy_9 rfl ?_
  refine g_iadd C 10 dX7_isWonBy_10 ?_
  refine g_icmp_ne C 11 18 dX7_isWonBy_11 (by decide) ?_ ?_
  · skip
    refine g_iconst C 18 0 dX7_isWonBy_18 rfl ?_
    exact g_nret C 19 rfl dX7_isWonBy_19
  · skip
    refine g_iconst C 14 1 dX7_isWonBy_14 rfl ?_
    refine g_goto C 15 19 dX7_isWonBy_15 (by decide) ?_
    exact g_nret C 19 rfl dX7_isWonBy_19
def bX7_friends_22 (F : Nat) (p1 : Int32) (p2 : Int32) (self8 : Int32 → Int32 → St → Option (Int32 × St)) (x5 : Int32) (x6 : Int32) (u7 : St) : Option (Int32 × St) :=
  if (u7.1 1) ≤ x6 then some (x5, u7) else bd (pX7_isWonBy F 0 p1 p2 x6 u7) (fun (r10 : Int32) (u9 : St) => jn (fun (a11 : Int32) (u12 : St) => vl (x5 ||| a11) (fun v13 => (self8 v13 (x6 + 1) u12))) (fun (J52 : Int32 → St → Option (Int32 × St)) => if r10 = 0 then (J52 0 u9) else (J52 (1 <<< (x6 &&& 31)) u9)))
def pX7_friends (F : Nat) (p1 : Int32) (p2 : Int32) (u : St) : Option (Int32 × St) :=
  bd (pX7_isCase F p1 u) (fun (r2 : Int32) (u1 : St) => if r2 = 0 then some ((-1), u1) else bd (pX7_isSide F p2 u1) (fun (r4 : Int32) (u3 : St) => if r4 = 0 then some ((-1), u3) else (lq2 (bX7_friends_22 F p1 p2) F 0 0 u3)))
set_option maxRecDepth 100000 in
set_option maxHeartbeats 4000000 in
theorem tX7_friends {l : Launch} {D : va_G} {cI cZ : ClassId} {ad : Nat → Nat} (F : Nat) (p1 : Int32) (p2 : Int32) (u : St) : CtI l D [(cI, .int), (cZ, .boolean)] (wM ad cI cZ) E0 yX7_friends wsX7_friends ({ frames := 5, cells := 0, slots := 0, locals := 122 } : Room) [.ref (ad 0), .int p1, .int p2] u (pX7_friends F p1 p2 u) := by
  refine ctI_of (own := RX7) (cc := cX7_friends) (n := 5) (ret := (some .int)) (by decide) rfl rfl (Nat.le_of_ble_eq_true rfl) (lv := [(0, .ref (ad 0)), (1, .int p1), (2, .int p2)]) rfl (fun C => ?_)
  have iX7 : ∀ w ∈ wsX70, w ∈ wsX7_friends := fun w h => List.mem_cons_of_mem _ (List.mem_append_right _ (inlX7 w h))
  rw [pX7_friends]
  refine g_aload_n C 0 0 dX7_friends_0 rfl ?_
  refine g_iload_n C 1 1 dX7_friends_1 rfl ?_
  refine g_callVi (st := []) (As := [.int p1]) C E0_ok E0_vm 2 0 1 (tX7_isCase F p1 u) rfl gX7_friends_X7_isCase rfl rfl rfl (by decide +kernel) ⟨Nat.le_of_ble_eq_true rfl, Nat.le_of_ble_eq_true rfl⟩ rfl rfl rfl (Nat.le_of_ble_eq_true rfl) dX7_friends_2 (fun r2 u1 => ?_)
  refine g_if_eq C 5 15 dX7_friends_5 (by decide) ?_ ?_
  · skip
    refine g_iconst C 15 (-1) dX7_friends_15 rfl ?_
    exact g_iret C 16 dX7_friends_16
  · skip
    refine g_iload_n C 8 2 dX7_friends_8 rfl ?_
    refine g_callSi (st := []) (As := [.int p2]) C E0_ok E0_vm 9 1 (tX7_isSide F p2 u1) rfl gX7_friends_X7_isSide rfl rfl rfl (by decide +kernel) ⟨Nat.le_of_ble_eq_true rfl, Nat.le_of_ble_eq_true rfl⟩ rfl (Nat.le_of_ble_eq_true rfl) dX7_friends_9 (fun r4 u3 => ?_)
    refine g_if_ne C 12 17 dX7_friends_12 (by decide) ?_ ?_
    · skip
      refine g_iconst C 17 0 dX7_friends_17 rfl ?_
      refine g_istore_n C 18 [(3, .int 0), (0, .ref (ad 0)), (1, .int p1), (2, .int p2)] dX7_friends_18 (by decide) rfl ?_
      refine g_iconst C 19 0 dX7_friends_19 rfl ?_
      refine g_istore C 20 [(4, .int 0), (3, .int 0), (0, .ref (ad 0)), (1, .int p1), (2, .int p2)] dX7_friends_20 (by decide) rfl ?_
      refine g_sub _ [2, 3, 4, 1, 0] rfl ?_
      refine g_lq2 (fun (x5 : Int32) (x6 : Int32) => [(0, .ref (ad 0)), (1, .int p1), (2, .int p2), (3, .int x5), (4, .int x6)]) (fun self8 hself8 x5 x6 u7 => ?_) F 0 0 u3
      rw [bX7_friends_22]
      refine g_iload C 22 4 dX7_friends_22 rfl ?_
      refine g_aload_n C 24 0 dX7_friends_24 rfl ?_
      refine gfM_X7_judgeMany C 25 iX7 (List.mem_cons_of_mem _ (List.mem_append_right _ wgL_15_17.1)) dX7_friends_25 ?_
      refine g_icmp_ge C 28 60 dX7_friends_28 (by decide) ?_ ?_
      · skip
        refine g_iload_n C 60 3 dX7_friends_60 rfl ?_
        exact g_iret C 61 dX7_friends_61
      · skip
        refine g_iload_n C 31 3 dX7_friends_31 rfl ?_
        refine g_aload_n C 32 0 dX7_friends_32 rfl ?_
        refine g_iconst C 33 0 dX7_friends_33 rfl ?_
        refine g_iload_n C 34 1 dX7_friends_34 rfl ?_
        refine g_iload_n C 35 2 dX7_friends_35 rfl ?_
        refine g_iload C 36 4 dX7_friends_36 rfl ?_
        refine g_callVi (st := [.int x5]) (As := [.int 0, .int p1, .int p2, .int x6]) C E0_ok E0_vm 38 0 4 (tX7_isWonBy F 0 p1 p2 x6 u7) rfl gX7_friends_X7_isWonBy rfl rfl rfl (by decide +kernel) ⟨Nat.le_of_ble_eq_true rfl, Nat.le_of_ble_eq_true rfl⟩ rfl rfl rfl (Nat.le_of_ble_eq_true rfl) dX7_friends_38 (fun r10 u9 => ?_)
        refine g_jn1 52 (fun (a11 : Int32) => [(0, .ref (ad 0)), (1, .int p1), (2, .int p2), (4, .int x6)]) (fun (a11 : Int32) => [.int a11, .int x5]) (fun a11 u12 => ?_) (fun J52 hJ52 => ?_)
        · skip
          refine g_ior C 52 dX7_friends_52 ?_
          refine g_istore_nV C 53 (fun v13 => [(3, .int v13), (0, .ref (ad 0)), (1, .int p1), (2, .int p2), (4, .int x6)]) dX7_friends_53 (by decide) (fun _ => rfl) (fun v13 => ?_)
          refine g_iinc C 54 4 [(4, .int (x6 + 1)), (3, .int v13), (0, .ref (ad 0)), (1, .int p1), (2, .int p2)] dX7_friends_54 rfl rfl (by decide) rfl ?_
          refine g_goto C 57 22 dX7_friends_57 (by decide) ?_
          exact g_sub _ [2, 3, 4, 1, 0] rfl (hself8 v13 (x6 + 1) u12)
        · skip
          refine g_if_eq C 41 51 dX7_friends_41 (by decide) ?_ ?_
          · skip
            refine g_iconst C 51 0 dX7_friends_51 rfl ?_
            exact g_sub _ [0, 1, 2, 4] rfl (hJ52 0 u9)
          · skip
            refine g_iconst C 44 1 dX7_friends_44 rfl ?_
            refine g_iload C 45 4 dX7_friends_45 rfl ?_
            refine g_ishl C 47 dX7_friends_47 ?_
            refine g_goto C 48 52 dX7_friends_48 (by decide) ?_
            exact g_sub _ [0, 1, 2, 4] rfl (hJ52 (1 <<< (x6 &&& 31)) u9)
    · skip
      refine g_iconst C 15 (-1) dX7_friends_15 rfl ?_
      exact g_iret C 16 dX7_friends_16
def bX7_leastOf_21 (F : Nat) (p1 : Int32) (p2 : Int32) (p3 : Int32) (p4 : Int32) (p5 : Int32) (self7 : Int32 → St → Option (Int32 × St)) (x5 : Int32) (u6 : St) : Option (Int32 × St) :=
  if p5 < x5 then some ((-4), u6) else bd (pX7_copies F 0 340 u6) (fun (_ : Unit) (u8 : St) => gd (inb (((340 + p4) + (2 * p1)) + p2) 408) (vl (sta u8 0 (((340 + p4) + (2 * p1)) + p2) x5) (fun (u9 : St) => bd (pX7_isWonBy F 340 p1 p2 p3 u9) (fun (r11 : Int32) (u10 : St) => if r11 = 0 then (self7 (x5 + 1) u10) else some (x5, u10)))))
def pX7_leastOf (F : Nat) (p1 : Int32) (p2 : Int32) (p3 : Int32) (p4 : Int32) (p5 : Int32) (u : St) : Option (Int32 × St) :=
  bd (pX7_isHeard F p1 p3 u) (fun (r2 : Int32) (u1 : St) => if r2 = 0 then some ((-1), u1) else bd (pX7_isSide F p2 u1) (fun (r4 : Int32) (u3 : St) => if r4 = 0 then some ((-1), u3) else (lq1 (bX7_leastOf_21 F p1 p2 p3 p4 p5) F 0 u3)))
set_option maxRecDepth 100000 in
set_option maxHeartbeats 4000000 in
theorem tX7_leastOf {l : Launch} {D : va_G} {cI cZ : ClassId} {ad : Nat → Nat} (F : Nat) (p1 : Int32) (p2 : Int32) (p3 : Int32) (p4 : Int32) (p5 : Int32) (u : St) : CtI l D [(cI, .int), (cZ, .boolean)] (wM ad cI cZ) E0 yX7_leastOf wsX7_leastOf ({ frames := 5, cells := 0, slots := 0, locals := 122 } : Room) [.ref (ad 0), .int p1, .int p2, .int p3, .int p4, .int p5] u (pX7_leastOf F p1 p2 p3 p4 p5 u) := by
  refine ctI_of (own := RX7) (cc := cX7_leastOf) (n := 7) (ret := (some .int)) (by decide) rfl rfl (Nat.le_of_ble_eq_true rfl) (lv := [(0, .ref (ad 0)), (1, .int p1), (2, .int p2), (3, .int p3), (4, .int p4), (5, .int p5)]) rfl (fun C => ?_)
  have iX7 : ∀ w ∈ wsX70, w ∈ wsX7_leastOf := fun w h => List.mem_cons_of_mem _ (List.mem_append_right _ (inlX7 w h))
  rw [pX7_leastOf]
  refine g_aload_n C 0 0 dX7_leastOf_0 rfl ?_
  refine g_iload_n C 1 1 dX7_leastOf_1 rfl ?_
  refine g_iload_n C 2 3 dX7_leastOf_2 rfl ?_
  refine g_callVi (st := []) (As := [.int p1, .int p3]) C E0_ok E0_vm 3 0 2 (tX7_isHeard F p1 p3 u) rfl gX7_leastOf_X7_isHeard rfl rfl rfl (by decide +kernel) ⟨Nat.le_of_ble_eq_true rfl, Nat.le_of_ble_eq_true rfl⟩ rfl rfl rfl (Nat.le_of_ble_eq_true rfl) dX7_leastOf_3 (fun r2 u1 => ?_)
  refine g_if_eq C 6 16 dX7_leastOf_6 (by decide) ?_ ?_
  · skip
    refine g_iconst C 16 (-1) dX7_leastOf_16 rfl ?_
    exact g_iret C 17 dX7_leastOf_17
  · skip
    refine g_iload_n C 9 2 dX7_leastOf_9 rfl ?_
    refine g_callSi (st := []) (As := [.int p2]) C E0_ok E0_vm 10 1 (tX7_isSide F p2 u1) rfl gX7_leastOf_X7_isSide rfl rfl rfl (by decide +kernel) ⟨Nat.le_of_ble_eq_true rfl, Nat.le_of_ble_eq_true rfl⟩ rfl (Nat.le_of_ble_eq_true rfl) dX7_leastOf_10 (fun r4 u3 => ?_)
    refine g_if_ne C 13 18 dX7_leastOf_13 (by decide) ?_ ?_
    · skip
      refine g_iconst C 18 0 dX7_leastOf_18 rfl ?_
      refine g_istore C 19 [(6, .int 0), (0, .ref (ad 0)), (1, .int p1), (2, .int p2), (3, .int p3), (4, .int p4), (5, .int p5)] dX7_leastOf_19 (by decide) rfl ?_
      refine g_sub _ [1, 2, 3, 4, 5, 6, 0] rfl ?_
      refine g_lq1 (fun (x5 : Int32) => [(0, .ref (ad 0)), (1, .int p1), (2, .int p2), (3, .int p3), (4, .int p4), (5, .int p5), (6, .int x5)]) (fun self7 hself7 x5 u6 => ?_) F 0 u3
      rw [bX7_leastOf_21]
      refine g_iload C 21 6 dX7_leastOf_21 rfl ?_
      refine g_iload C 23 5 dX7_leastOf_23 rfl ?_
      refine g_icmp_gt C 25 77 dX7_leastOf_25 (by decide) ?_ ?_
      · skip
        refine g_bipush C 77 (-4) dX7_leastOf_77 rfl ?_
        exact g_iret C 79 dX7_leastOf_79
      · skip
        refine g_aload_n C 28 0 dX7_leastOf_28 rfl ?_
        refine g_iconst C 29 0 dX7_leastOf_29 rfl ?_
        refine g_sipush C 30 340 dX7_leastOf_30 rfl ?_
        refine g_callVv (st := []) (As := [.int 0, .int 340]) C E0_ok E0_vm 33 0 2 (tX7_copies F 0 340 u6) rfl gX7_leastOf_X7_copies rfl rfl rfl (by decide +kernel) ⟨Nat.le_of_ble_eq_true rfl, Nat.le_of_ble_eq_true rfl⟩ rfl rfl rfl (Nat.le_of_ble_eq_true rfl) dX7_leastOf_33 (fun u8 => ?_)
        refine g_aload_n C 36 0 dX7_leastOf_36 rfl ?_
        refine gfM_X7_state C 37 iX7 (List.mem_cons_of_mem _ (List.mem_append_right _ wgL_5_14.1)) dX7_leastOf_37 ?_
        refine g_sipush C 40 340 dX7_leastOf_40 rfl ?_
        refine g_iload C 43 4 dX7_leastOf_43 rfl ?_
        refine g_iadd C 45 dX7_leastOf_45 ?_
        refine g_iconst C 46 2 dX7_leastOf_46 rfl ?_
        refine g_iload_n C 47 1 dX7_leastOf_47 rfl ?_
        refine g_imul C 48 dX7_leastOf_48 ?_
        refine g_iadd C 49 dX7_leastOf_49 ?_
        refine g_iload_n C 50 2 dX7_leastOf_50 rfl ?_
        refine g_iadd C 51 dX7_leastOf_51 ?_
        refine g_iload C 52 6 dX7_leastOf_52 rfl ?_
        refine g_iast C 54 (1 + 0) 0 0 (wM_arr 0 (by decide)) (wM_aset 0 (by decide)) rfl dX7_leastOf_54 (fun u9 => ?_)
        refine g_aload_n C 55 0 dX7_leastOf_55 rfl ?_
        refine g_sipush C 56 340 dX7_leastOf_56 rfl ?_
        refine g_iload_n C 59 1 dX7_leastOf_59 rfl ?_
        refine g_iload_n C 60 2 dX7_leastOf_60 rfl ?_
        refine g_iload_n C 61 3 dX7_leastOf_61 rfl ?_
        refine g_callVi (st := []) (As := [.int 340, .int p1, .int p2, .int p3]) C E0_ok E0_vm 62 0 4 (tX7_isWonBy F 340 p1 p2 p3 u9) rfl gX7_leastOf_X7_isWonBy rfl rfl rfl (by decide +kernel) ⟨Nat.le_of_ble_eq_true rfl, Nat.le_of_ble_eq_true rfl⟩ rfl rfl rfl (Nat.le_of_ble_eq_true rfl) dX7_leastOf_62 (fun r11 u10 => ?_)
        refine g_if_eq C 65 71 dX7_leastOf_65 (by decide) ?_ ?_
        · skip
          refine g_iinc C 71 6 [(6, .int (x5 + 1)), (0, .ref (ad 0)), (1, .int p1), (2, .int p2), (3, .int p3), (4, .int p4), (5, .int p5)] dX7_leastOf_71 rfl rfl (by decide) rfl ?_
          refine g_goto C 74 21 dX7_leastOf_74 (by decide) ?_
          exact g_sub _ [1, 2, 3, 4, 5, 6, 0] rfl (hself7 (x5 + 1) u10)
        · skip
          refine g_iload C 68 6 dX7_leastOf_68 rfl ?_
          exact g_iret C 70 dX7_leastOf_70
    · skip
      refine g_iconst C 16 (-1) dX7_leastOf_16 rfl ?_
      exact g_iret C 17 dX7_leastOf_17
def pX7_wax (F : Nat) (p1 : Int32) (p2 : Int32) (p3 : Int32) (u : St) : Option (Int32 × St) :=
  bd (pX7_leastOf F p1 p2 p3 0 3 u) (fun (r2 : Int32) (u1 : St) => some (r2, u1))
set_option maxRecDepth 100000 in
set_option maxHeartbeats 4000000 in
theorem tX7_wax {l : Launch} {D : va_G} {cI cZ : ClassId} {ad : Nat → Nat} (F : Nat) (p1 : Int32) (p2 : Int32) (p3 : Int32) (u : St) : CtI l D [(cI, .int), (cZ, .boolean)] (wM ad cI cZ) E0 yX7_wax wsX7_wax ({ frames := 6, cells := 0, slots := 0, locals := 148 } : Room) [.ref (ad 0), .int p1, .int p2, .int p3] u (pX7_wax F p1 p2 p3 u) := by
  refine ctI_of (own := RX7) (cc := cX7_wax) (n := 4) (ret := (some .int)) (by decide) rfl rfl (Nat.le_of_ble_eq_true rfl) (lv := [(0, .ref (ad 0)), (1, .int p1), (2, .int p2), (3, .int p3)]) rfl (fun C => ?_)
  rw [pX7_wax]
  refine g_aload_n C 0 0 dX7_wax_0 rfl ?_
  refine g_iload_n C 1 1 dX7_wax_1 rfl ?_
  refine g_iload_n C 2 2 dX7_wax_2 rfl ?_
  refine g_iload_n C 3 3 dX7_wax_3 rfl ?_
  refine g_iconst C 4 0 dX7_wax_4 rfl ?_
  refine g_iconst C 5 3 dX7_wax_5 rfl ?_
  refine g_callVi (st := []) (As := [.int p1, .int p2, .int p3, .int 0, .int 3]) C E0_ok E0_vm 6 0 5 (tX7_leastOf F p1 p2 p3 0 3 u) rfl gX7_wax_X7_leastOf rfl rfl rfl (by decide +kernel) ⟨Nat.le_of_ble_eq_true rfl, Nat.le_of_ble_eq_true rfl⟩ rfl rfl rfl (Nat.le_of_ble_eq_true rfl) dX7_wax_6 (fun r2 u1 => ?_)
  exact g_iret C 9 dX7_wax_9
def pX7_least (F : Nat) (p1 : Int32) (p2 : Int32) (p3 : Int32) (u : St) : Option (Int32 × St) :=
  bd (pX7_leastOf F p1 p2 p3 8 99 u) (fun (r2 : Int32) (u1 : St) => some (r2, u1))
set_option maxRecDepth 100000 in
set_option maxHeartbeats 4000000 in
theorem tX7_least {l : Launch} {D : va_G} {cI cZ : ClassId} {ad : Nat → Nat} (F : Nat) (p1 : Int32) (p2 : Int32) (p3 : Int32) (u : St) : CtI l D [(cI, .int), (cZ, .boolean)] (wM ad cI cZ) E0 yX7_least wsX7_least ({ frames := 6, cells := 0, slots := 0, locals := 148 } : Room) [.ref (ad 0), .int p1, .int p2, .int p3] u (pX7_least F p1 p2 p3 u) := by
  refine ctI_of (own := RX7) (cc := cX7_least) (n := 4) (ret := (some .int)) (by decide) rfl rfl (Nat.le_of_ble_eq_true rfl) (lv := [(0, .ref (ad 0)), (1, .int p1), (2, .int p2), (3, .int p3)]) rfl (fun C => ?_)
  rw [pX7_least]
  refine g_aload_n C 0 0 dX7_least_0 rfl ?_
  refine g_iload_n C 1 1 dX7_least_1 rfl ?_
  refine g_iload_n C 2 2 dX7_least_2 rfl ?_
  refine g_iload_n C 3 3 dX7_least_3 rfl ?_
  refine g_bipush C 4 8 dX7_least_4 rfl ?_
  refine g_bipush C 6 99 dX7_least_6 rfl ?_
  refine g_callVi (st := []) (As := [.int p1, .int p2, .int p3, .int 8, .int 99]) C E0_ok E0_vm 8 0 5 (tX7_leastOf F p1 p2 p3 8 99 u) rfl gX7_least_X7_leastOf rfl rfl rfl (by decide +kernel) ⟨Nat.le_of_ble_eq_true rfl, Nat.le_of_ble_eq_true rfl⟩ rfl rfl rfl (Nat.le_of_ble_eq_true rfl) dX7_least_8 (fun r2 u1 => ?_)
  exact g_iret C 11 dX7_least_11
