def jX5_verdictHeld_99 (F : Nat)   (u2 : St) : Option (Int32 × St) :=
  bd (pX5_burnsStill F 0 u2) (fun (r4 : Int32) (u3 : St) => bd (pX5_burnsStill F 1 u3) (fun (r6 : Int32) (u5 : St) => jn (fun (u7 : St) => if r4 = 0 then if r6 = 0 then some (3, u7) else some (2, u7) else some (1, u7)) (fun (J132 : St → Option (Int32 × St)) => if r4 = 0 then (J132 u5) else if r6 = 0 then (J132 u5) else bd (pX5_goesTo F u5) (fun (r9 : Int32) (u8 : St) => if r9 = 0 then some (2, u8) else some (1, u8)))))
def bX5_verdictHeld_5 (F : Nat) (J99 : St → Option (Int32 × St)) (self11 : St → Option (Int32 × St))  (u10 : St) : Option (Int32 × St) :=
  if (u10.1 25) ≤ (u10.1 26) then (J99 u10) else bd (pX5_burnsStill F 0 u10) (fun (r13 : Int32) (u12 : St) => if r13 = 0 then (J99 u12) else bd (pX5_burnsStill F 1 u12) (fun (r15 : Int32) (u14 : St) => if r15 = 0 then (J99 u14) else gd (inb 0 2) (gd (inb 0 2) (gd (inb (u14.2 55 (Int32.toNatClampNeg 0)) 4) (gd (inb 0 2) (vl (sta u14 56 0 (if 0 < ((u14.2 56 (Int32.toNatClampNeg 0)) - (tabBURNS (Int32.toNatClampNeg (u14.2 55 (Int32.toNatClampNeg 0))))) then ((u14.2 56 (Int32.toNatClampNeg 0)) - (tabBURNS (Int32.toNatClampNeg (u14.2 55 (Int32.toNatClampNeg 0))))) else 0)) (fun (u16 : St) => gd (inb 1 2) (gd (inb 1 2) (gd (inb (u16.2 55 (Int32.toNatClampNeg 1)) 4) (gd (inb 1 2) (vl (sta u16 56 1 (if 0 < ((u16.2 56 (Int32.toNatClampNeg 1)) - (tabBURNS (Int32.toNatClampNeg (u16.2 55 (Int32.toNatClampNeg 1))))) then ((u16.2 56 (Int32.toNatClampNeg 1)) - (tabBURNS (Int32.toNatClampNeg (u16.2 55 (Int32.toNatClampNeg 1))))) else 0)) (fun (u17 : St) => vl (stf u17 26 ((u17.1 26) + 1)) (fun (u18 : St) => (self11 u18))))))))))))))
def pX5_verdictHeld (F : Nat)  (u : St) : Option (Int32 × St) :=
  vl (stf u 26 0) (fun (u1 : St) => jn (jX5_verdictHeld_99 F) (fun (J99 : St → Option (Int32 × St)) => (lp0 (bX5_verdictHeld_5 F J99) F u1)))
set_option maxRecDepth 100000 in
set_option maxHeartbeats 4000000 in
theorem tX5_verdictHeld {l : Launch} {D : va_G} {cI cZ : ClassId} {ad : Nat → Nat} {tBURNS tFLAME_BOUNDS : Nat} {tS : Option Nat} {adK adV : Nat → Nat} (F : Nat)  (u : St) : CtI l D [(cI, .int), (cZ, .boolean)] (wX ad cI cZ) (EX tBURNS tFLAME_BOUNDS tS adK adV) yX5_verdictHeld wsX5_verdictHeld ({ frames := 1, cells := 0, slots := 0, locals := 21 } : Room) [.ref (ad 6)] u (pX5_verdictHeld F u) := by
  refine ctI_of (own := RX5) (cc := cX5_verdictHeld) (n := 3) (ret := (some .int)) (by decide) rfl rfl (Nat.le_of_ble_eq_true rfl) (lv := [(0, .ref (ad 6))]) rfl (fun C => ?_)
  have iX5 : ∀ w ∈ wsX50, w ∈ wsX5_verdictHeld := fun w h => List.mem_cons_of_mem _ (List.mem_append_right _ (inlX5 w h))
  rw [pX5_verdictHeld]
  refine g_aload_n C 0 0 dX5_verdictHeld_0 rfl ?_
  refine g_iconst C 1 0 dX5_verdictHeld_1 rfl ?_
  refine pfX_X5_minute C 2 iX5 (List.mem_cons_of_mem _ (List.mem_append_right _ wgL_4_14.1)) dX5_verdictHeld_2 (fun u1 => ?_)
  refine g_jn0 99 ([(0, .ref (ad 6))]) ([]) (fun u2 => ?_) (fun J99 hJ99 => ?_)
  · skip
    rw [jX5_verdictHeld_99]
    refine g_aload_n C 99 0 dX5_verdictHeld_99 rfl ?_
    refine g_iconst C 100 0 dX5_verdictHeld_100 rfl ?_
    refine g_callVi (st := []) (As := [.int 0]) C EX_ok EX_vm 101 6 1 (tX5_burnsStill F 0 u2) rfl gX5_verdictHeld_X5_burnsStill rfl rfl rfl (by decide +kernel) ⟨Nat.le_of_ble_eq_true rfl, Nat.le_of_ble_eq_true rfl⟩ rfl rfl rfl (Nat.le_of_ble_eq_true rfl) dX5_verdictHeld_101 (fun r4 u3 => ?_)
    refine g_istore_n C 104 [(1, .int r4), (0, .ref (ad 6))] dX5_verdictHeld_104 (by decide) rfl ?_
    refine g_aload_n C 105 1 dX5_verdictHeld_105 rfl ?_
    refine g_iconst C 106 1 dX5_verdictHeld_106 rfl ?_
    refine g_callVi (st := []) (As := [.int 1]) C EX_ok EX_vm 107 6 1 (tX5_burnsStill F 1 u3) rfl gX5_verdictHeld_X5_burnsStill rfl rfl rfl (by decide +kernel) ⟨Nat.le_of_ble_eq_true rfl, Nat.le_of_ble_eq_true rfl⟩ rfl rfl rfl (Nat.le_of_ble_eq_true rfl) dX5_verdictHeld_107 (fun r6 u5 => ?_)
    refine g_istore_n C 110 [(2, .int r6), (1, .int r4), (0, .ref (ad 6))] dX5_verdictHeld_110 (by decide) rfl ?_
    refine g_iload_n C 111 1 dX5_verdictHeld_111 rfl ?_
    refine g_jn0 132 ([(1, .int r4), (2, .int r6)]) ([]) (fun u7 => ?_) (fun J132 hJ132 => ?_)
    · skip
      refine g_iload_n C 132 0 dX5_verdictHeld_132 rfl ?_
      refine g_if_eq C 133 138 dX5_verdictHeld_133 (by decide) ?_ ?_
      · skip
        refine g_iload_n C 138 1 dX5_verdictHeld_138 rfl ?_
        refine g_if_eq C 139 146 dX5_verdictHeld_139 (by decide) ?_ ?_
        · skip
          refine g_iconst C 146 3 dX5_verdictHeld_146 rfl ?_
          exact g_iret C 147 dX5_verdictHeld_147
        · skip
          refine g_iconst C 142 2 dX5_verdictHeld_142 rfl ?_
          refine g_goto C 143 147 dX5_verdictHeld_143 (by decide) ?_
          exact g_iret C 147 dX5_verdictHeld_147
      · skip
        refine g_iconst C 136 1 dX5_verdictHeld_136 rfl ?_
        exact g_iret C 137 dX5_verdictHeld_137
    · skip
      refine g_if_eq C 112 132 dX5_verdictHeld_112 (by decide) ?_ ?_
      · skip
        exact g_sub _ [1, 0] rfl (hJ132 u5)
      · skip
        refine g_iload_n C 115 0 dX5_verdictHeld_115 rfl ?_
        refine g_if_eq C 116 132 dX5_verdictHeld_116 (by decide) ?_ ?_
        · skip
          exact g_sub _ [1, 0] rfl (hJ132 u5)
        · skip
          refine g_aload_n C 119 2 dX5_verdictHeld_119 rfl ?_
          refine g_callVi (st := []) (As := []) C EX_ok EX_vm 120 6 0 (tX5_goesTo F u5) rfl gX5_verdictHeld_X5_goesTo rfl rfl rfl (by decide +kernel) ⟨Nat.le_of_ble_eq_true rfl, Nat.le_of_ble_eq_true rfl⟩ rfl rfl rfl (Nat.le_of_ble_eq_true rfl) dX5_verdictHeld_120 (fun r9 u8 => ?_)
          refine g_if_ne C 123 130 dX5_verdictHeld_123 (by decide) ?_ ?_
          · skip
            refine g_iconst C 130 1 dX5_verdictHeld_130 rfl ?_
            exact g_iret C 131 dX5_verdictHeld_131
          · skip
            refine g_iconst C 126 2 dX5_verdictHeld_126 rfl ?_
            refine g_goto C 127 131 dX5_verdictHeld_127 (by decide) ?_
            exact g_iret C 131 dX5_verdictHeld_131
  · skip
    refine g_sub _ [0] rfl ?_
    refine g_lp0 (fun self11 hself11 u10 => ?_) F u1
    rw [bX5_verdictHeld_5]
    refine g_aload_n C 5 0 dX5_verdictHeld_5 rfl ?_
    refine gfX_X5_minute C 6 iX5 (List.mem_cons_of_mem _ (List.mem_append_right _ wgL_4_14.1)) dX5_verdictHeld_6 ?_
    refine g_aload_n C 9 0 dX5_verdictHeld_9 rfl ?_
    refine gfX_X5_slow C 10 iX5 (List.mem_cons_of_mem _ (List.mem_append_right _ wgL_4_13.1)) dX5_verdictHeld_10 ?_
    refine g_icmp_ge C 13 99 dX5_verdictHeld_13 (by decide) ?_ ?_
    · skip
      exact g_sub _ [0] rfl (hJ99 u10)
    · skip
      refine g_aload_n C 16 0 dX5_verdictHeld_16 rfl ?_
      refine g_iconst C 17 0 dX5_verdictHeld_17 rfl ?_
      refine g_callVi (st := []) (As := [.int 0]) C EX_ok EX_vm 18 6 1 (tX5_burnsStill F 0 u10) rfl gX5_verdictHeld_X5_burnsStill rfl rfl rfl (by decide +kernel) ⟨Nat.le_of_ble_eq_true rfl, Nat.le_of_ble_eq_true rfl⟩ rfl rfl rfl (Nat.le_of_ble_eq_true rfl) dX5_verdictHeld_18 (fun r13 u12 => ?_)
      refine g_if_eq C 21 99 dX5_verdictHeld_21 (by decide) ?_ ?_
      · skip
        exact g_sub _ [0] rfl (hJ99 u12)
      · skip
        refine g_aload_n C 24 0 dX5_verdictHeld_24 rfl ?_
        refine g_iconst C 25 1 dX5_verdictHeld_25 rfl ?_
        refine g_callVi (st := []) (As := [.int 1]) C EX_ok EX_vm 26 6 1 (tX5_burnsStill F 1 u12) rfl gX5_verdictHeld_X5_burnsStill rfl rfl rfl (by decide +kernel) ⟨Nat.le_of_ble_eq_true rfl, Nat.le_of_ble_eq_true rfl⟩ rfl rfl rfl (Nat.le_of_ble_eq_true rfl) dX5_verdictHeld_26 (fun r15 u14 => ?_)
        refine g_if_eq C 29 99 dX5_verdictHeld_29 (by decide) ?_ ?_
        · skip
          exact g_sub _ [0] rfl (hJ99 u14)
        · skip
          refine g_aload_n C 32 0 dX5_verdictHeld_32 rfl ?_
          refine gfX_X5_length C 33 iX5 (List.mem_cons_of_mem _ (List.mem_append_right _ wgL_4_9.1)) dX5_verdictHeld_33 ?_
          refine g_iconst C 36 0 dX5_verdictHeld_36 rfl ?_
          refine g_iconst C 37 0 dX5_verdictHeld_37 rfl ?_
          refine g_aload_n C 38 0 dX5_verdictHeld_38 rfl ?_
          refine gfX_X5_length C 39 iX5 (List.mem_cons_of_mem _ (List.mem_append_right _ wgL_4_9.1)) dX5_verdictHeld_39 ?_
          refine g_iconst C 42 0 dX5_verdictHeld_42 rfl ?_
          refine g_iald C 43 (10 + 56) 0 (wX_arr 56 (by decide)) rfl dX5_verdictHeld_43 ?_
          refine g_getsN C 44 (EX_zBURNS C.2.2.2.2.2.2.2.2.1) (EX_n12 C.2.2.2.2.2.2.2.2.1) dX5_verdictHeld_44 ?_
          refine g_aload_n C 47 0 dX5_verdictHeld_47 rfl ?_
          refine gfX_X5_kind C 48 iX5 (List.mem_cons_of_mem _ (List.mem_append_right _ wgL_4_8.1)) dX5_verdictHeld_48 ?_
          refine g_iconst C 51 0 dX5_verdictHeld_51 rfl ?_
          refine g_iald C 52 (10 + 55) 0 (wX_arr 55 (by decide)) rfl dX5_verdictHeld_52 ?_
          refine g_ti C 53 (EX_tBURNS C.2.2.2.2.2.2.2.2.1) dX5_verdictHeld_53 ?_
          refine g_isub C 54 dX5_verdictHeld_54 ?_
          refine g_mmax C 55 (by decide +kernel) (by decide +kernel) (by decide +kernel) (by decide +kernel) ⟨Nat.le_of_ble_eq_true rfl, Nat.le_of_ble_eq_true rfl⟩ dX5_verdictHeld_55 ?_
          refine g_iast C 58 (10 + 56) 0 56 (wX_arr 56 (by decide)) (wX_aset 56 (by decide)) rfl dX5_verdictHeld_58 (fun u16 => ?_)
          refine g_aload_n C 59 0 dX5_verdictHeld_59 rfl ?_
          refine gfX_X5_length C 60 iX5 (List.mem_cons_of_mem _ (List.mem_append_right _ wgL_4_9.1)) dX5_verdictHeld_60 ?_
          refine g_iconst C 63 1 dX5_verdictHeld_63 rfl ?_
          refine g_iconst C 64 0 dX5_verdictHeld_64 rfl ?_
          refine g_aload_n C 65 0 dX5_verdictHeld_65 rfl ?_
          refine gfX_X5_length C 66 iX5 (List.mem_cons_of_mem _ (List.mem_append_right _ wgL_4_9.1)) dX5_verdictHeld_66 ?_
          refine g_iconst C 69 1 dX5_verdictHeld_69 rfl ?_
          refine g_iald C 70 (10 + 56) 0 (wX_arr 56 (by decide)) rfl dX5_verdictHeld_70 ?_
          refine g_getsN C 71 (EX_zBURNS C.2.2.2.2.2.2.2.2.1) (EX_n12 C.2.2.2.2.2.2.2.2.1) dX5_verdictHeld_71 ?_
          refine g_aload_n C 74 0 dX5_verdictHeld_74 rfl ?_
          refine gfX_X5_kind C 75 iX5 (List.mem_cons_of_mem _ (List.mem_append_right _ wgL_4_8.1)) dX5_verdictHeld_75 ?_
          refine g_iconst C 78 1 dX5_verdictHeld_78 rfl ?_
          refine g_iald C 79 (10 + 55) 0 (wX_arr 55 (by decide)) rfl dX5_verdictHeld_79 ?_
          refine g_ti C 80 (EX_tBURNS C.2.2.2.2.2.2.2.2.1) dX5_verdictHeld_80 ?_
          refine g_isub C 81 dX5_verdictHeld_81 ?_
          refine g_mmax C 82 (by decide +kernel) (by decide +kernel) (by decide +kernel) (by decide +kernel) ⟨Nat.le_of_ble_eq_true rfl, Nat.le_of_ble_eq_true rfl⟩ dX5_verdictHeld_82 ?_
          refine g_iast C 85 (10 + 56) 0 56 (wX_arr 56 (by decide)) (wX_aset 56 (by decide)) rfl dX5_verdictHeld_85 (fun u17 => ?_)
          refine g_aload_n C 86 0 dX5_verdictHeld_86 rfl ?_
          refine g_dup C 87 dX5_verdictHeld_87 rfl ?_
          refine gfX_X5_minute C 88 iX5 (List.mem_cons_of_mem _ (List.mem_append_right _ wgL_4_14.1)) dX5_verdictHeld_88 ?_
          refine g_iconst C 91 1 dX5_verdictHeld_91 rfl ?_
          refine g_iadd C 92 dX5_verdictHeld_92 ?_
          refine pfX_X5_minute C 93 iX5 (List.mem_cons_of_mem _ (List.mem_append_right _ wgL_4_14.1)) dX5_verdictHeld_93 (fun u18 => ?_)
          refine g_goto C 96 5 dX5_verdictHeld_96 (by decide) ?_
          exact g_sub _ [0] rfl (hself11 u18)
def pX6_verdictNow (F : Nat) (p1 : Int32) (p2 : Int32) (u : St) : Option (Int32 × St) :=
  bd (pX6_prepare F p1 p2 0 u) (fun (_ : Unit) (u1 : St) => bd (pX5_verdictHeld F u1) (fun (r3 : Int32) (u2 : St) => some (r3, u2)))
set_option maxRecDepth 100000 in
set_option maxHeartbeats 4000000 in
theorem tX6_verdictNow {l : Launch} {D : va_G} {cI cZ : ClassId} {ad : Nat → Nat} {tBURNS tFLAME_BOUNDS : Nat} {tS : Option Nat} {adK adV : Nat → Nat} (F : Nat) (p1 : Int32) (p2 : Int32) (u : St) : CtI l D [(cI, .int), (cZ, .boolean)] (wX ad cI cZ) (EX tBURNS tFLAME_BOUNDS tS adK adV) yX6_verdictNow wsX6_verdictNow ({ frames := 4, cells := 0, slots := 0, locals := 85 } : Room) [.ref (ad 0), .int p1, .int p2] u (pX6_verdictNow F p1 p2 u) := by
  refine ctI_of (own := RX6) (cc := cX6_verdictNow) (n := 3) (ret := (some .int)) (by decide) rfl rfl (Nat.le_of_ble_eq_true rfl) (lv := [(0, .ref (ad 0)), (1, .int p1), (2, .int p2)]) rfl (fun C => ?_)
  have iX6 : ∀ w ∈ wsX60, w ∈ wsX6_verdictNow := fun w h => List.mem_cons_of_mem _ (List.mem_append_right _ (inlX6 w h))
  rw [pX6_verdictNow]
  refine g_aload_n C 0 0 dX6_verdictNow_0 rfl ?_
  refine g_iload_n C 1 1 dX6_verdictNow_1 rfl ?_
  refine g_iload_n C 2 2 dX6_verdictNow_2 rfl ?_
  refine g_iconst C 3 0 dX6_verdictNow_3 rfl ?_
  refine g_callVv (st := []) (As := [.int p1, .int p2, .int 0]) C EX_ok EX_vm 4 0 3 (tX6_prepare F p1 p2 0 u) rfl gX6_verdictNow_X6_prepare rfl rfl rfl (by decide +kernel) ⟨Nat.le_of_ble_eq_true rfl, Nat.le_of_ble_eq_true rfl⟩ rfl rfl rfl (Nat.le_of_ble_eq_true rfl) dX6_verdictNow_4 (fun u1 => ?_)
  refine g_aload_n C 7 0 dX6_verdictNow_7 rfl ?_
  refine gfX_X6_trial C 8 iX6 (List.mem_cons_of_mem _ (List.mem_append_right _ wgL_2_3.1)) dX6_verdictNow_8 ?_
  refine g_callVi (st := []) (As := []) C EX_ok EX_vm 11 6 0 (tX5_verdictHeld F u1) rfl gX6_verdictNow_X5_verdictHeld rfl rfl rfl (by decide +kernel) ⟨Nat.le_of_ble_eq_true rfl, Nat.le_of_ble_eq_true rfl⟩ rfl rfl rfl (Nat.le_of_ble_eq_true rfl) dX6_verdictNow_11 (fun r3 u2 => ?_)
  exact g_iret C 14 dX6_verdictNow_14
def pX6_hearForGood (F : Nat) (p1 : Int32) (p2 : Int32) (u : St) : Option (Int32 × St) :=
  bd (pX6_verdictNow F p1 p2 u) (fun (r2 : Int32) (u1 : St) => gd (inb 0 2) (gd (inb (2 * p1) 8) (vl (sta u1 1 (2 * p1) (u1.2 56 (Int32.toNatClampNeg 0))) (fun (u3 : St) => gd (inb 1 2) (gd (inb ((2 * p1) + 1) 8) (vl (sta u3 1 ((2 * p1) + 1) (u3.2 56 (Int32.toNatClampNeg 1))) (fun (u4 : St) => gd (inb p1 4) (vl (sta u4 3 p1 r2) (fun (u5 : St) => gd (inb p1 4) (vl (sta u5 5 p1 (u5.1 26)) (fun (u6 : St) => gd (inb p1 4) (vl (sta u6 6 p1 p2) (fun (u7 : St) => some (r2, u7))))))))))))))
set_option maxRecDepth 100000 in
set_option maxHeartbeats 4000000 in
theorem tX6_hearForGood {l : Launch} {D : va_G} {cI cZ : ClassId} {ad : Nat → Nat} {tBURNS tFLAME_BOUNDS : Nat} {tS : Option Nat} {adK adV : Nat → Nat} (F : Nat) (p1 : Int32) (p2 : Int32) (u : St) : CtI l D [(cI, .int), (cZ, .boolean)] (wX ad cI cZ) (EX tBURNS tFLAME_BOUNDS tS adK adV) yX6_hearForGood wsX6_hearForGood ({ frames := 5, cells := 0, slots := 0, locals := 107 } : Room) [.ref (ad 0), .int p1, .int p2] u (pX6_hearForGood F p1 p2 u) := by
  refine ctI_of (own := RX6) (cc := cX6_hearForGood) (n := 4) (ret := (some .int)) (by decide) rfl rfl (Nat.le_of_ble_eq_true rfl) (lv := [(0, .ref (ad 0)), (1, .int p1), (2, .int p2)]) rfl (fun C => ?_)
  have iX0 : ∀ w ∈ wsX00, w ∈ wsX6_hearForGood := fun w h => List.mem_cons_of_mem _ (List.mem_append_right _ (inlX0 w h))
  have iX5 : ∀ w ∈ wsX50, w ∈ wsX6_hearForGood := fun w h => List.mem_cons_of_mem _ (List.mem_append_right _ (inlX5 w h))
  have iX6 : ∀ w ∈ wsX60, w ∈ wsX6_hearForGood := fun w h => List.mem_cons_of_mem _ (List.mem_append_right _ (inlX6 w h))
  rw [pX6_hearForGood]
  refine g_aload_n C 0 0 dX6_hearForGood_0 rfl ?_
  refine g_iload_n C 1 1 dX6_hearForGood_1 rfl ?_
  refine g_iload_n C 2 2 dX6_hearForGood_2 rfl ?_
  refine g_callVi (st := []) (As := [.int p1, .int p2]) C EX_ok EX_vm 3 0 2 (tX6_verdictNow F p1 p2 u) rfl gX6_hearForGood_X6_verdictNow rfl rfl rfl (by decide +kernel) ⟨Nat.le_of_ble_eq_true rfl, Nat.le_of_ble_eq_true rfl⟩ rfl rfl rfl (Nat.le_of_ble_eq_true rfl) dX6_hearForGood_3 (fun r2 u1 => ?_)
  refine g_istore_n C 6 [(3, .int r2), (0, .ref (ad 0)), (1, .int p1), (2, .int p2)] dX6_hearForGood_6 (by decide) rfl ?_
  refine g_aload_n C 7 1 dX6_hearForGood_7 rfl ?_
  refine gfX_X6_court C 8 iX6 (List.mem_cons_of_mem _ (List.mem_append_right _ wgL_1_15.1)) dX6_hearForGood_8 ?_
  refine gfX_X0_length 0 (by decide) C 11 iX0 (List.mem_cons_of_mem _ (List.mem_append_right _ wgL_18_10.1)) dX6_hearForGood_11 ?_
  refine g_iconst C 14 2 dX6_hearForGood_14 rfl ?_
  refine g_iload_n C 15 2 dX6_hearForGood_15 rfl ?_
  refine g_imul C 16 dX6_hearForGood_16 ?_
  refine g_aload_n C 17 1 dX6_hearForGood_17 rfl ?_
  refine gfX_X6_trial C 18 iX6 (List.mem_cons_of_mem _ (List.mem_append_right _ wgL_2_3.1)) dX6_hearForGood_18 ?_
  refine gfX_X5_length C 21 iX5 (List.mem_cons_of_mem _ (List.mem_append_right _ wgL_25_3.1)) dX6_hearForGood_21 ?_
  refine g_iconst C 24 0 dX6_hearForGood_24 rfl ?_
  refine g_iald C 25 (10 + 56) 0 (wX_arr 56 (by decide)) rfl dX6_hearForGood_25 ?_
  refine g_iast C 26 (10 + 1) 0 1 (wX_arr 1 (by decide)) (wX_aset 1 (by decide)) rfl dX6_hearForGood_26 (fun u3 => ?_)
  refine g_aload_n C 27 1 dX6_hearForGood_27 rfl ?_
  refine gfX_X6_court C 28 iX6 (List.mem_cons_of_mem _ (List.mem_append_right _ wgL_1_15.1)) dX6_hearForGood_28 ?_
  refine gfX_X0_length 0 (by decide) C 31 iX0 (List.mem_cons_of_mem _ (List.mem_append_right _ wgL_18_10.1)) dX6_hearForGood_31 ?_
  refine g_iconst C 34 2 dX6_hearForGood_34 rfl ?_
  refine g_iload_n C 35 2 dX6_hearForGood_35 rfl ?_
  refine g_imul C 36 dX6_hearForGood_36 ?_
  refine g_iconst C 37 1 dX6_hearForGood_37 rfl ?_
  refine g_iadd C 38 dX6_hearForGood_38 ?_
  refine g_aload_n C 39 1 dX6_hearForGood_39 rfl ?_
  refine gfX_X6_trial C 40 iX6 (List.mem_cons_of_mem _ (List.mem_append_right _ wgL_2_3.1)) dX6_hearForGood_40 ?_
  refine gfX_X5_length C 43 iX5 (List.mem_cons_of_mem _ (List.mem_append_right _ wgL_25_3.1)) dX6_hearForGood_43 ?_
  refine g_iconst C 46 1 dX6_hearForGood_46 rfl ?_
  refine g_iald C 47 (10 + 56) 0 (wX_arr 56 (by decide)) rfl dX6_hearForGood_47 ?_
  refine g_iast C 48 (10 + 1) 0 1 (wX_arr 1 (by decide)) (wX_aset 1 (by decide)) rfl dX6_hearForGood_48 (fun u4 => ?_)
  refine g_aload_n C 49 1 dX6_hearForGood_49 rfl ?_
  refine gfX_X6_court C 50 iX6 (List.mem_cons_of_mem _ (List.mem_append_right _ wgL_1_15.1)) dX6_hearForGood_50 ?_
  refine gfX_X0_verdict 0 (by decide) C 53 iX0 (List.mem_cons_of_mem _ (List.mem_append_right _ wgL_18_9.1)) dX6_hearForGood_53 ?_
  refine g_iload_n C 56 2 dX6_hearForGood_56 rfl ?_
  refine g_iload_n C 57 0 dX6_hearForGood_57 rfl ?_
  refine g_iast C 58 (10 + 3) 0 3 (wX_arr 3 (by decide)) (wX_aset 3 (by decide)) rfl dX6_hearForGood_58 (fun u5 => ?_)
  refine g_aload_n C 59 1 dX6_hearForGood_59 rfl ?_
  refine gfX_X6_court C 60 iX6 (List.mem_cons_of_mem _ (List.mem_append_right _ wgL_1_15.1)) dX6_hearForGood_60 ?_
  refine gfX_X0_endMinute 0 (by decide) C 63 iX0 (List.mem_cons_of_mem _ (List.mem_append_right _ wgL_20_13.1)) dX6_hearForGood_63 ?_
  refine g_iload_n C 66 2 dX6_hearForGood_66 rfl ?_
  refine g_aload_n C 67 1 dX6_hearForGood_67 rfl ?_
  refine gfX_X6_trial C 68 iX6 (List.mem_cons_of_mem _ (List.mem_append_right _ wgL_2_3.1)) dX6_hearForGood_68 ?_
  refine gfX_X5_minute C 71 iX5 (List.mem_cons_of_mem _ (List.mem_append_right _ wgL_25_4.1)) dX6_hearForGood_71 ?_
  refine g_iast C 74 (10 + 5) 0 5 (wX_arr 5 (by decide)) (wX_aset 5 (by decide)) rfl dX6_hearForGood_74 (fun u6 => ?_)
  refine g_aload_n C 75 1 dX6_hearForGood_75 rfl ?_
  refine gfX_X6_court C 76 iX6 (List.mem_cons_of_mem _ (List.mem_append_right _ wgL_1_15.1)) dX6_hearForGood_76 ?_
  refine gfX_X0_endJudge 0 (by decide) C 79 iX0 (List.mem_cons_of_mem _ (List.mem_append_right _ wgL_20_14.1)) dX6_hearForGood_79 ?_
  refine g_iload_n C 82 2 dX6_hearForGood_82 rfl ?_
  refine g_iload_n C 83 3 dX6_hearForGood_83 rfl ?_
  refine g_iast C 84 (10 + 6) 0 6 (wX_arr 6 (by decide)) (wX_aset 6 (by decide)) rfl dX6_hearForGood_84 (fun u7 => ?_)
  refine g_iload_n C 85 0 dX6_hearForGood_85 rfl ?_
  exact g_iret C 86 dX6_hearForGood_86
def pX6_hear (F : Nat) (p1 : Int32) (p2 : Int32) (u : St) : Option (Int32 × St) :=
  bd (pX0_hasCase F 0 (Int32.toInt64 p1) u) (fun (r2 : Int32) (u1 : St) => if r2 = 0 then some ((-1), u1) else bd (pX0_hasJudge F 0 p2 u1) (fun (r4 : Int32) (u3 : St) => if r4 = 0 then some ((-1), u3) else gd (inb p1 4) (if (u3.2 3 (Int32.toNatClampNeg p1)) = 0 then bd (pX6_hearForGood F p1 p2 u3) (fun (r6 : Int32) (u5 : St) => some (r6, u5)) else some ((-2), u3))))
set_option maxRecDepth 100000 in
set_option maxHeartbeats 4000000 in
theorem tX6_hear {l : Launch} {D : va_G} {cI cZ : ClassId} {ad : Nat → Nat} {tBURNS tFLAME_BOUNDS : Nat} {tS : Option Nat} {adK adV : Nat → Nat} (F : Nat) (p1 : Int32) (p2 : Int32) (u : St) : CtI l D [(cI, .int), (cZ, .boolean)] (wX ad cI cZ) (EX tBURNS tFLAME_BOUNDS tS adK adV) yX6_hear wsX6_hear ({ frames := 6, cells := 0, slots := 0, locals := 130 } : Room) [.ref (ad 0), .int p1, .int p2] u (pX6_hear F p1 p2 u) := by
  refine ctI_of (own := RX6) (cc := cX6_hear) (n := 3) (ret := (some .int)) (by decide) rfl rfl (Nat.le_of_ble_eq_true rfl) (lv := [(0, .ref (ad 0)), (1, .int p1), (2, .int p2)]) rfl (fun C => ?_)
  have iX0 : ∀ w ∈ wsX00, w ∈ wsX6_hear := fun w h => List.mem_cons_of_mem _ (List.mem_append_right _ (inlX0 w h))
  have iX6 : ∀ w ∈ wsX60, w ∈ wsX6_hear := fun w h => List.mem_cons_of_mem _ (List.mem_append_right _ (inlX6 w h))
  rw [pX6_hear]
  refine g_aload_n C 0 0 dX6_hear_0 rfl ?_
  refine gfX_X6_court C 1 iX6 (List.mem_cons_of_mem _ (List.mem_append_right _ wgL_1_15.1)) dX6_hear_1 ?_
  refine g_iload_n C 4 1 dX6_hear_4 rfl ?_
  refine g_i2l C 5 dX6_hear_5 ?_
  refine g_callVi (st := []) (As := [.long (Int32.toInt64 p1)]) C EX_ok EX_vm 6 1 1 (tX0_hasCase F 0 (by decide) (Int32.toInt64 p1) u) rfl gX6_hear_X0_hasCase rfl rfl rfl (by decide +kernel) ⟨Nat.le_of_ble_eq_true rfl, Nat.le_of_ble_eq_true rfl⟩ (wX_X0 ad cI cZ _ 0 (by decide)) rfl rfl (Nat.le_of_ble_eq_true rfl) dX6_hear_6 (fun r2 u1 => ?_)
  refine g_if_eq C 9 23 dX6_hear_9 (by decide) ?_ ?_
  · skip
    refine g_iconst C 23 (-1) dX6_hear_23 rfl ?_
    exact g_iret C 24 dX6_hear_24
  · skip
    refine g_aload_n C 12 0 dX6_hear_12 rfl ?_
    refine gfX_X6_court C 13 iX6 (List.mem_cons_of_mem _ (List.mem_append_right _ wgL_1_15.1)) dX6_hear_13 ?_
    refine g_iload_n C 16 2 dX6_hear_16 rfl ?_
    refine g_callVi (st := []) (As := [.int p2]) C EX_ok EX_vm 17 1 1 (tX0_hasJudge F 0 (by decide) p2 u1) rfl gX6_hear_X0_hasJudge rfl rfl rfl (by decide +kernel) ⟨Nat.le_of_ble_eq_true rfl, Nat.le_of_ble_eq_true rfl⟩ (wX_X0 ad cI cZ _ 0 (by decide)) rfl rfl (Nat.le_of_ble_eq_true rfl) dX6_hear_17 (fun r4 u3 => ?_)
    refine g_if_ne C 20 25 dX6_hear_20 (by decide) ?_ ?_
    · skip
      refine g_aload_n C 25 0 dX6_hear_25 rfl ?_
      refine gfX_X6_court C 26 iX6 (List.mem_cons_of_mem _ (List.mem_append_right _ wgL_1_15.1)) dX6_hear_26 ?_
      refine gfX_X0_verdict 0 (by decide) C 29 iX0 (List.mem_cons_of_mem _ (List.mem_append_right _ wgL_18_9.1)) dX6_hear_29 ?_
      refine g_iload_n C 32 1 dX6_hear_32 rfl ?_
      refine g_iald C 33 (10 + 3) 0 (wX_arr 3 (by decide)) rfl dX6_hear_33 ?_
      refine g_if_eq C 34 42 dX6_hear_34 (by decide) ?_ ?_
      · skip
        refine g_aload_n C 42 0 dX6_hear_42 rfl ?_
        refine g_iload_n C 43 1 dX6_hear_43 rfl ?_
        refine g_iload_n C 44 2 dX6_hear_44 rfl ?_
        refine g_callVi (st := []) (As := [.int p1, .int p2]) C EX_ok EX_vm 45 0 2 (tX6_hearForGood F p1 p2 u3) rfl gX6_hear_X6_hearForGood rfl rfl rfl (by decide +kernel) ⟨Nat.le_of_ble_eq_true rfl, Nat.le_of_ble_eq_true rfl⟩ rfl rfl rfl (Nat.le_of_ble_eq_true rfl) dX6_hear_45 (fun r6 u5 => ?_)
        exact g_iret C 48 dX6_hear_48
      · skip
        refine g_bipush C 37 (-2) dX6_hear_37 rfl ?_
        refine g_goto C 39 48 dX6_hear_39 (by decide) ?_
        exact g_iret C 48 dX6_hear_48
    · skip
      refine g_iconst C 23 (-1) dX6_hear_23 rfl ?_
      exact g_iret C 24 dX6_hear_24
def jX6_appeal_102 (F : Nat) (p1 : Int32)  (u6 : St) : Option (Int32 × St) :=
  gd (inb (2 * p1) 8) (gd (inb ((2 * p1) + 1) 8) (some (((u6.2 1 (Int32.toNatClampNeg (2 * p1))) + (u6.2 1 (Int32.toNatClampNeg ((2 * p1) + 1)))), u6)))
def bX6_appeal_65 (F : Nat) (p1 : Int32) (J102 : St → Option (Int32 × St)) (self9 : Int32 → St → Option (Int32 × St)) (x7 : Int32) (u8 : St) : Option (Int32 × St) :=
  if ((2 * p1) + 2) ≤ x7 then (J102 u8) else gd (inb x7 8) (gd (inb x7 8) (vl (sta u8 1 x7 (if 1 < (u8.2 1 (Int32.toNatClampNeg x7)) then (u8.2 1 (Int32.toNatClampNeg x7)) else 1)) (fun (u10 : St) => (self9 (x7 + 1) u10))))
def pX6_appeal (F : Nat) (p1 : Int32) (u : St) : Option (Int32 × St) :=
  bd (pX0_hasCase F 0 (Int32.toInt64 p1) u) (fun (r2 : Int32) (u1 : St) => if r2 = 0 then some ((-1), u1) else gd (inb p1 4) (if (u1.2 3 (Int32.toNatClampNeg p1)) = 0 then some ((-2), u1) else gd (inb p1 4) (if (u1.2 4 (Int32.toNatClampNeg p1)) = 0 then gd (inb p1 4) (vl (sta u1 3 p1 0) (fun (u3 : St) => gd (inb p1 4) (vl (sta u3 4 p1 1) (fun (u4 : St) => vl (2 * p1) (fun v5 => jn (jX6_appeal_102 F p1) (fun (J102 : St → Option (Int32 × St)) => (lq1 (bX6_appeal_65 F p1 J102) F v5 u4))))))) else some ((-2), u1))))
set_option maxRecDepth 100000 in
set_option maxHeartbeats 4000000 in
theorem tX6_appeal {l : Launch} {D : va_G} {cI cZ : ClassId} {ad : Nat → Nat} {tBURNS tFLAME_BOUNDS : Nat} {tS : Option Nat} {adK adV : Nat → Nat} (F : Nat) (p1 : Int32) (u : St) : CtI l D [(cI, .int), (cZ, .boolean)] (wX ad cI cZ) (EX tBURNS tFLAME_BOUNDS tS adK adV) yX6_appeal wsX6_appeal ({ frames := 2, cells := 0, slots := 0, locals := 45 } : Room) [.ref (ad 0), .int p1] u (pX6_appeal F p1 u) := by
  refine ctI_of (own := RX6) (cc := cX6_appeal) (n := 3) (ret := (some .int)) (by decide) rfl rfl (Nat.le_of_ble_eq_true rfl) (lv := [(0, .ref (ad 0)), (1, .int p1)]) rfl (fun C => ?_)
  have iX0 : ∀ w ∈ wsX00, w ∈ wsX6_appeal := fun w h => List.mem_cons_of_mem _ (List.mem_append_right _ (inlX0 w h))
  have iX6 : ∀ w ∈ wsX60, w ∈ wsX6_appeal := fun w h => List.mem_cons_of_mem _ (List.mem_append_right _ (inlX6 w h))
  rw [pX6_appeal]
  refine g_aload_n C 0 0 dX6_appeal_0 rfl ?_
  refine gfX_X6_court C 1 iX6 (List.mem_cons_of_mem _ (List.mem_append_right _ wgL_1_15.1)) dX6_appeal_1 ?_
  refine g_iload_n C 4 1 dX6_appeal_4 rfl ?_
  refine g_i2l C 5 dX6_appeal_5 ?_
  refine g_callVi (st := []) (As := [.long (Int32.toInt64 p1)]) C EX_ok EX_vm 6 1 1 (tX0_hasCase F 0 (by decide) (Int32.toInt64 p1) u) rfl gX6_appeal_X0_hasCase rfl rfl rfl (by decide +kernel) ⟨Nat.le_of_ble_eq_true rfl, Nat.le_of_ble_eq_true rfl⟩ (wX_X0 ad cI cZ _ 0 (by decide)) rfl rfl (Nat.le_of_ble_eq_true rfl) dX6_appeal_6 (fun r2 u1 => ?_)
  refine g_if_ne C 9 14 dX6_appeal_9 (by decide) ?_ ?_
  · skip
    refine g_aload_n C 14 0 dX6_appeal_14 rfl ?_
    refine gfX_X6_court C 15 iX6 (List.mem_cons_of_mem _ (List.mem_append_right _ wgL_1_15.1)) dX6_appeal_15 ?_
    refine gfX_X0_verdict 0 (by decide) C 18 iX0 (List.mem_cons_of_mem _ (List.mem_append_right _ wgL_18_9.1)) dX6_appeal_18 ?_
    refine g_iload_n C 21 1 dX6_appeal_21 rfl ?_
    refine g_iald C 22 (10 + 3) 0 (wX_arr 3 (by decide)) rfl dX6_appeal_22 ?_
    refine g_if_eq C 23 38 dX6_appeal_23 (by decide) ?_ ?_
    · skip
      refine g_bipush C 38 (-2) dX6_appeal_38 rfl ?_
      exact g_iret C 40 dX6_appeal_40
    · skip
      refine g_aload_n C 26 0 dX6_appeal_26 rfl ?_
      refine gfX_X6_court C 27 iX6 (List.mem_cons_of_mem _ (List.mem_append_right _ wgL_1_15.1)) dX6_appeal_27 ?_
      refine gfX_X0_appealed 0 (by decide) C 30 iX0 (List.mem_cons_of_mem _ (List.mem_append_right _ wgL_20_12.1)) dX6_appeal_30 ?_
      refine g_iload_n C 33 1 dX6_appeal_33 rfl ?_
      refine g_iald C 34 (10 + 4) 0 (wX_arr 4 (by decide)) rfl dX6_appeal_34 ?_
      refine g_if_eq C 35 41 dX6_appeal_35 (by decide) ?_ ?_
      · skip
        refine g_aload_n C 41 0 dX6_appeal_41 rfl ?_
        refine gfX_X6_court C 42 iX6 (List.mem_cons_of_mem _ (List.mem_append_right _ wgL_1_15.1)) dX6_appeal_42 ?_
        refine gfX_X0_verdict 0 (by decide) C 45 iX0 (List.mem_cons_of_mem _ (List.mem_append_right _ wgL_18_9.1)) dX6_appeal_45 ?_
        refine g_iload_n C 48 1 dX6_appeal_48 rfl ?_
        refine g_iconst C 49 0 dX6_appeal_49 rfl ?_
        refine g_iast C 50 (10 + 3) 0 3 (wX_arr 3 (by decide)) (wX_aset 3 (by decide)) rfl dX6_appeal_50 (fun u3 => ?_)
        refine g_aload_n C 51 0 dX6_appeal_51 rfl ?_
        refine gfX_X6_court C 52 iX6 (List.mem_cons_of_mem _ (List.mem_append_right _ wgL_1_15.1)) dX6_appeal_52 ?_
        refine gfX_X0_appealed 0 (by decide) C 55 iX0 (List.mem_cons_of_mem _ (List.mem_append_right _ wgL_20_12.1)) dX6_appeal_55 ?_
        refine g_iload_n C 58 1 dX6_appeal_58 rfl ?_
        refine g_iconst C 59 1 dX6_appeal_59 rfl ?_
        refine g_iast C 60 (10 + 4) 0 4 (wX_arr 4 (by decide)) (wX_aset 4 (by decide)) rfl dX6_appeal_60 (fun u4 => ?_)
        refine g_iconst C 61 2 dX6_appeal_61 rfl ?_
        refine g_iload_n C 62 1 dX6_appeal_62 rfl ?_
        refine g_imul C 63 dX6_appeal_63 ?_
        refine g_istore_nV C 64 (fun v5 => [(2, .int v5), (0, .ref (ad 0)), (1, .int p1)]) dX6_appeal_64 (by decide) (fun _ => rfl) (fun v5 => ?_)
        refine g_jn0 102 ([(0, .ref (ad 0)), (1, .int p1)]) ([]) (fun u6 => ?_) (fun J102 hJ102 => ?_)
        · skip
          rw [jX6_appeal_102]
          refine g_aload_n C 102 0 dX6_appeal_102 rfl ?_
          refine gfX_X6_court C 103 iX6 (List.mem_cons_of_mem _ (List.mem_append_right _ wgL_1_15.1)) dX6_appeal_103 ?_
          refine gfX_X0_length 0 (by decide) C 106 iX0 (List.mem_cons_of_mem _ (List.mem_append_right _ wgL_18_10.1)) dX6_appeal_106 ?_
          refine g_iconst C 109 2 dX6_appeal_109 rfl ?_
          refine g_iload_n C 110 1 dX6_appeal_110 rfl ?_
          refine g_imul C 111 dX6_appeal_111 ?_
          refine g_iald C 112 (10 + 1) 0 (wX_arr 1 (by decide)) rfl dX6_appeal_112 ?_
          refine g_aload_n C 113 0 dX6_appeal_113 rfl ?_
          refine gfX_X6_court C 114 iX6 (List.mem_cons_of_mem _ (List.mem_append_right _ wgL_1_15.1)) dX6_appeal_114 ?_
          refine gfX_X0_length 0 (by decide) C 117 iX0 (List.mem_cons_of_mem _ (List.mem_append_right _ wgL_18_10.1)) dX6_appeal_117 ?_
          refine g_iconst C 120 2 dX6_appeal_120 rfl ?_
          refine g_iload_n C 121 1 dX6_appeal_121 rfl ?_
          refine g_imul C 122 dX6_appeal_122 ?_
          refine g_iconst C 123 1 dX6_appeal_123 rfl ?_
          refine g_iadd C 124 dX6_appeal_124 ?_
          refine g_iald C 125 (10 + 1) 0 (wX_arr 1 (by decide)) rfl dX6_appeal_125 ?_
          refine g_iadd C 126 dX6_appeal_126 ?_
          exact g_iret C 127 dX6_appeal_127
        · skip
          refine g_sub _ [1, 2, 0] rfl ?_
          refine g_lq1 (fun (x7 : Int32) => [(0, .ref (ad 0)), (1, .int p1), (2, .int x7)]) (fun self9 hself9 x7 u8 => ?_) F v5 u4
          rw [bX6_appeal_65]
          refine g_iload_n C 65 2 dX6_appeal_65 rfl ?_
          refine g_iconst C 66 2 dX6_appeal_66 rfl ?_
          refine g_iload_n C 67 1 dX6_appeal_67 rfl ?_
          refine g_imul C 68 dX6_appeal_68 ?_
          refine g_iconst C 69 2 dX6_appeal_69 rfl ?_
          refine g_iadd C 70 dX6_appeal_70 ?_
          refine g_icmp_ge C 71 102 dX6_appeal_71 (by decide) ?_ ?_
          · skip
            exact g_sub _ [0, 1] rfl (hJ102 u8)
          · skip
            refine g_aload_n C 74 0 dX6_appeal_74 rfl ?_
            refine gfX_X6_court C 75 iX6 (List.mem_cons_of_mem _ (List.mem_append_right _ wgL_1_15.1)) dX6_appeal_75 ?_
            refine gfX_X0_length 0 (by decide) C 78 iX0 (List.mem_cons_of_mem _ (List.mem_append_right _ wgL_18_10.1)) dX6_appeal_78 ?_
            refine g_iload_n C 81 2 dX6_appeal_81 rfl ?_
            refine g_iconst C 82 1 dX6_appeal_82 rfl ?_
            refine g_aload_n C 83 0 dX6_appeal_83 rfl ?_
            refine gfX_X6_court C 84 iX6 (List.mem_cons_of_mem _ (List.mem_append_right _ wgL_1_15.1)) dX6_appeal_84 ?_
            refine gfX_X0_length 0 (by decide) C 87 iX0 (List.mem_cons_of_mem _ (List.mem_append_right _ wgL_18_10.1)) dX6_appeal_87 ?_
            refine g_iload_n C 90 2 dX6_appeal_90 rfl ?_
            refine g_iald C 91 (10 + 1) 0 (wX_arr 1 (by decide)) rfl dX6_appeal_91 ?_
            refine g_mmax C 92 (by decide +kernel) (by decide +kernel) (by decide +kernel) (by decide +kernel) ⟨Nat.le_of_ble_eq_true rfl, Nat.le_of_ble_eq_true rfl⟩ dX6_appeal_92 ?_
            refine g_iast C 95 (10 + 1) 0 1 (wX_arr 1 (by decide)) (wX_aset 1 (by decide)) rfl dX6_appeal_95 (fun u10 => ?_)
            refine g_iinc C 96 2 [(2, .int (x7 + 1)), (0, .ref (ad 0)), (1, .int p1)] dX6_appeal_96 rfl rfl (by decide) rfl ?_
            refine g_goto C 99 65 dX6_appeal_99 (by decide) ?_
            exact g_sub _ [1, 2, 0] rfl (hself9 (x7 + 1) u10)
      · skip
        refine g_bipush C 38 (-2) dX6_appeal_38 rfl ?_
        exact g_iret C 40 dX6_appeal_40
  · skip
    refine g_iconst C 12 (-1) dX6_appeal_12 rfl ?_
    exact g_iret C 13 dX6_appeal_13
def pX6_foretell (F : Nat) (p1 : Int32) (p2 : Int32) (p3 : Int32) (u : St) : Option (Int32 × St) :=
  bd (pX0_hasCase F 0 (Int32.toInt64 p1) u) (fun (r2 : Int32) (u1 : St) => if r2 = 0 then some ((-1), u1) else bd (pX0_hasJudge F 0 p2 u1) (fun (r4 : Int32) (u3 : St) => if r4 = 0 then some ((-1), u3) else bd (pX6_isIn F (Int32.toInt64 p3) 0 2 u3) (fun (r6 : Int32) (u5 : St) => if r6 = 0 then some ((-1), u5) else bd (pX6_verdictNow F p1 p2 u5) (fun (r8 : Int32) (u7 : St) => if p3 = 0 then some (r8, u7) else if p3 = 1 then some ((u7.1 26), u7) else gd (inb 0 2) (gd (inb 1 2) (some (((u7.2 56 (Int32.toNatClampNeg 0)) + (u7.2 56 (Int32.toNatClampNeg 1))), u7)))))))
set_option maxRecDepth 100000 in
set_option maxHeartbeats 4000000 in
theorem tX6_foretell {l : Launch} {D : va_G} {cI cZ : ClassId} {ad : Nat → Nat} {tBURNS tFLAME_BOUNDS : Nat} {tS : Option Nat} {adK adV : Nat → Nat} (F : Nat) (p1 : Int32) (p2 : Int32) (p3 : Int32) (u : St) : CtI l D [(cI, .int), (cZ, .boolean)] (wX ad cI cZ) (EX tBURNS tFLAME_BOUNDS tS adK adV) yX6_foretell wsX6_foretell ({ frames := 5, cells := 0, slots := 0, locals := 107 } : Room) [.ref (ad 0), .int p1, .int p2, .int p3] u (pX6_foretell F p1 p2 p3 u) := by
  refine ctI_of (own := RX6) (cc := cX6_foretell) (n := 5) (ret := (some .int)) (by decide) rfl rfl (Nat.le_of_ble_eq_true rfl) (lv := [(0, .ref (ad 0)), (1, .int p1), (2, .int p2), (3, .int p3)]) rfl (fun C => ?_)
  have iX5 : ∀ w ∈ wsX50, w ∈ wsX6_foretell := fun w h => List.mem_cons_of_mem _ (List.mem_append_right _ (inlX5 w h))
  have iX6 : ∀ w ∈ wsX60, w ∈ wsX6_foretell := fun w h => List.mem_cons_of_mem _ (List.mem_append_right _ (inlX6 w h))
  rw [pX6_foretell]
  refine g_aload_n C 0 0 dX6_foretell_0 rfl ?_
  refine gfX_X6_court C 1 iX6 (List.mem_cons_of_mem _ (List.mem_append_right _ wgL_1_15.1)) dX6_foretell_1 ?_
  refine g_iload_n C 4 1 dX6_foretell_4 rfl ?_
  refine g_i2l C 5 dX6_foretell_5 ?_
  refine g_callVi (st := []) (As := [.long (Int32.toInt64 p1)]) C EX_ok EX_vm 6 1 1 (tX0_hasCase F 0 (by decide) (Int32.toInt64 p1) u) rfl gX6_foretell_X0_hasCase rfl rfl rfl (by decide +kernel) ⟨Nat.le_of_ble_eq_true rfl, Nat.le_of_ble_eq_true rfl⟩ (wX_X0 ad cI cZ _ 0 (by decide)) rfl rfl (Nat.le_of_ble_eq_true rfl) dX6_foretell_6 (fun r2 u1 => ?_)
  refine g_if_eq C 9 33 dX6_foretell_9 (by decide) ?_ ?_
  · skip
    refine g_iconst C 33 (-1) dX6_foretell_33 rfl ?_
    exact g_iret C 34 dX6_foretell_34
  · skip
    refine g_aload_n C 12 0 dX6_foretell_12 rfl ?_
    refine gfX_X6_court C 13 iX6 (List.mem_cons_of_mem _ (List.mem_append_right _ wgL_1_15.1)) dX6_foretell_13 ?_
    refine g_iload_n C 16 2 dX6_foretell_16 rfl ?_
    refine g_callVi (st := []) (As := [.int p2]) C EX_ok EX_vm 17 1 1 (tX0_hasJudge F 0 (by decide) p2 u1) rfl gX6_foretell_X0_hasJudge rfl rfl rfl (by decide +kernel) ⟨Nat.le_of_ble_eq_true rfl, Nat.le_of_ble_eq_true rfl⟩ (wX_X0 ad cI cZ _ 0 (by decide)) rfl rfl (Nat.le_of_ble_eq_true rfl) dX6_foretell_17 (fun r4 u3 => ?_)
    refine g_if_eq C 20 33 dX6_foretell_20 (by decide) ?_ ?_
    · skip
      refine g_iconst C 33 (-1) dX6_foretell_33 rfl ?_
      exact g_iret C 34 dX6_foretell_34
    · skip
      refine g_iload_n C 23 3 dX6_foretell_23 rfl ?_
      refine g_i2l C 24 dX6_foretell_24 ?_
      refine g_iconst C 25 0 dX6_foretell_25 rfl ?_
      refine g_iconst C 26 2 dX6_foretell_26 rfl ?_
      refine g_callSi (st := []) (As := [.long (Int32.toInt64 p3), .int 0, .int 2]) C EX_ok EX_vm 27 3 (tX6_isIn F (Int32.toInt64 p3) 0 2 u3) rfl gX6_foretell_X6_isIn rfl rfl rfl (by decide +kernel) ⟨Nat.le_of_ble_eq_true rfl, Nat.le_of_ble_eq_true rfl⟩ rfl (Nat.le_of_ble_eq_true rfl) dX6_foretell_27 (fun r6 u5 => ?_)
      refine g_if_ne C 30 35 dX6_foretell_30 (by decide) ?_ ?_
      · skip
        refine g_aload_n C 35 0 dX6_foretell_35 rfl ?_
        refine g_iload_n C 36 1 dX6_foretell_36 rfl ?_
        refine g_iload_n C 37 2 dX6_foretell_37 rfl ?_
        refine g_callVi (st := []) (As := [.int p1, .int p2]) C EX_ok EX_vm 38 0 2 (tX6_verdictNow F p1 p2 u5) rfl gX6_foretell_X6_verdictNow rfl rfl rfl (by decide +kernel) ⟨Nat.le_of_ble_eq_true rfl, Nat.le_of_ble_eq_true rfl⟩ rfl rfl rfl (Nat.le_of_ble_eq_true rfl) dX6_foretell_38 (fun r8 u7 => ?_)
        refine g_istore C 41 [(4, .int r8), (0, .ref (ad 0)), (1, .int p1), (2, .int p2), (3, .int p3)] dX6_foretell_41 (by decide) rfl ?_
        refine g_iload_n C 43 4 dX6_foretell_43 rfl ?_
        refine g_if_ne C 44 50 dX6_foretell_44 (by decide) ?_ ?_
        · skip
          refine g_iload_n C 50 4 dX6_foretell_50 rfl ?_
          refine g_iconst C 51 1 dX6_foretell_51 rfl ?_
          refine g_icmp_ne C 52 65 dX6_foretell_52 (by decide) ?_ ?_
          · skip
            refine g_aload_n C 65 1 dX6_foretell_65 rfl ?_
            refine gfX_X6_trial C 66 iX6 (List.mem_cons_of_mem _ (List.mem_append_right _ wgL_2_3.1)) dX6_foretell_66 ?_
            refine gfX_X5_length C 69 iX5 (List.mem_cons_of_mem _ (List.mem_append_right _ wgL_25_3.1)) dX6_foretell_69 ?_
            refine g_iconst C 72 0 dX6_foretell_72 rfl ?_
            refine g_iald C 73 (10 + 56) 0 (wX_arr 56 (by decide)) rfl dX6_foretell_73 ?_
            refine g_aload_n C 74 1 dX6_foretell_74 rfl ?_
            refine gfX_X6_trial C 75 iX6 (List.mem_cons_of_mem _ (List.mem_append_right _ wgL_2_3.1)) dX6_foretell_75 ?_
            refine gfX_X5_length C 78 iX5 (List.mem_cons_of_mem _ (List.mem_append_right _ wgL_25_3.1)) dX6_foretell_78 ?_
            refine g_iconst C 81 1 dX6_foretell_81 rfl ?_
            refine g_iald C 82 (10 + 56) 0 (wX_arr 56 (by decide)) rfl dX6_foretell_82 ?_
            refine g_iadd C 83 dX6_foretell_83 ?_
            exact g_iret C 84 dX6_foretell_84
          · skip
            refine g_aload_n C 55 1 dX6_foretell_55 rfl ?_
            refine gfX_X6_trial C 56 iX6 (List.mem_cons_of_mem _ (List.mem_append_right _ wgL_2_3.1)) dX6_foretell_56 ?_
            refine gfX_X5_minute C 59 iX5 (List.mem_cons_of_mem _ (List.mem_append_right _ wgL_25_4.1)) dX6_foretell_59 ?_
            refine g_goto C 62 84 dX6_foretell_62 (by decide) ?_
            exact g_iret C 84 dX6_foretell_84
        · skip
          refine g_iload C 47 0 dX6_foretell_47 rfl ?_
          exact g_iret C 49 dX6_foretell_49
      · skip
        refine g_iconst C 33 (-1) dX6_foretell_33 rfl ?_
        exact g_iret C 34 dX6_foretell_34
def bX3_goByDocket_25 (F : Nat) (p3 : Int32) (self6 : Int32 → St → Option (Unit × St)) (x4 : Int32) (u5 : St) : Option (Unit × St) :=
  if (u5.1 3) ≤ x4 then some ((), u5) else gd (inb x4 6) (vl (u5.2 11 (Int32.toNatClampNeg x4)) (fun v7 => gd (inb v7 4) (jn (fun (u8 : St) => (self6 (x4 + 1) u8)) (fun (J112 : St → Option (Unit × St)) => if (u5.2 59 (Int32.toNatClampNeg v7)) = 0 then gd (inb x4 6) (bd (pX5_prepare F v7 (u5.2 12 (Int32.toNatClampNeg x4)) p3 u5) (fun (_ : Unit) (u10 : St) => bd (pX5_verdictHeld F u10) (fun (r12 : Int32) (u11 : St) => gd (inb v7 4) (vl (sta u11 59 v7 r12) (fun (u13 : St) => vl (stf u13 28 ((u13.1 28) + ((u13.1 26) + 1))) (fun (u14 : St) => (J112 u14))))))) else if (u5.1 27) = (-4) then vl (stf u5 27 x4) (fun (u9 : St) => (J112 u9)) else (J112 u5)))))
def pX3_goByDocket (F : Nat) (p3 : Int32) (u : St) : Option (Unit × St) :=
  bd (pX6_copyRow F 3 59 u) (fun (_ : Unit) (u1 : St) => vl (stf u1 27 (-4)) (fun (u2 : St) => vl (stf u2 28 0) (fun (u3 : St) => (lq1 (bX3_goByDocket_25 F p3) F 0 u3))))
set_option maxRecDepth 100000 in
set_option maxHeartbeats 4000000 in
theorem tX3_goByDocket {l : Launch} {D : va_G} {cI cZ : ClassId} {ad : Nat → Nat} {tBURNS tFLAME_BOUNDS : Nat} {tS : Option Nat} {adK adV : Nat → Nat} (F : Nat) (p3 : Int32) (u : St) : CtV l D [(cI, .int), (cZ, .boolean)] (wX ad cI cZ) (EX tBURNS tFLAME_BOUNDS tS adK adV) yX3_goByDocket wsX3_goByDocket ({ frames := 3, cells := 0, slots := 0, locals := 62 } : Room) [.ref (ad 7), .ref (ad 1), .ref (ad 6), .int p3] u (pX3_goByDocket F p3 u) := by
  refine ctV_of (own := RX3) (cc := cX3_goByDocket) (n := 6) (ret := none) (by decide) rfl rfl (Nat.le_of_ble_eq_true rfl) (lv := [(0, .ref (ad 7)), (1, .ref (ad 1)), (2, .ref (ad 6)), (3, .int p3)]) rfl (fun C => ?_)
  have iX0 : ∀ w ∈ wsX00, w ∈ wsX3_goByDocket := fun w h => List.mem_cons_of_mem _ (List.mem_append_right _ (inlX0 w h))
  have iX3 : ∀ w ∈ wsX30, w ∈ wsX3_goByDocket := fun w h => List.mem_cons_of_mem _ (List.mem_append_right _ (inlX3 w h))
  have iX5 : ∀ w ∈ wsX50, w ∈ wsX3_goByDocket := fun w h => List.mem_cons_of_mem _ (List.mem_append_right _ (inlX5 w h))
  rw [pX3_goByDocket]
  refine g_aload_n C 0 1 dX3_goByDocket_0 rfl ?_
  refine gfX_X0_verdict 0 (by decide) C 1 iX0 (List.mem_cons_of_mem _ (List.mem_append_right _ wgL_30_5.1)) dX3_goByDocket_1 ?_
  refine g_aload_n C 4 0 dX3_goByDocket_4 rfl ?_
  refine gfX_X3_verdict C 5 iX3 (List.mem_cons_of_mem _ (List.mem_append_right _ wgL_4_18.1)) dX3_goByDocket_5 ?_
  refine g_callNv (st := []) (As := [.ref (ad (10 + 3)), .ref (ad (10 + 59))]) C EX_ok EX_vm 8 2 (tX6_copyRow F 3 (by decide) 59 (by decide) u) rfl ggX3_goByDocket_X6_copyRow rfl rfl rfl (EX_n3 C.2.2.2.2.2.2.2.2.1) (by decide +kernel) (by decide +kernel) (by decide +kernel) ⟨Nat.le_of_ble_eq_true rfl, Nat.le_of_ble_eq_true rfl⟩ rfl (Nat.le_of_ble_eq_true rfl) dX3_goByDocket_8 (fun u1 => ?_)
  refine g_aload_n C 11 0 dX3_goByDocket_11 rfl ?_
  refine g_bipush C 12 (-4) dX3_goByDocket_12 rfl ?_
  refine pfX_X3_firstPassed C 14 iX3 (List.mem_cons_of_mem _ (List.mem_append_right _ wgL_4_19.1)) dX3_goByDocket_14 (fun u2 => ?_)
  refine g_aload_n C 17 0 dX3_goByDocket_17 rfl ?_
  refine g_iconst C 18 0 dX3_goByDocket_18 rfl ?_
  refine pfX_X3_minutes C 19 iX3 (List.mem_cons_of_mem _ (List.mem_append_right _ wgL_4_20.1)) dX3_goByDocket_19 (fun u3 => ?_)
  refine g_iconst C 22 0 dX3_goByDocket_22 rfl ?_
  refine g_istore C 23 [(4, .int 0), (0, .ref (ad 7)), (1, .ref (ad 1)), (2, .ref (ad 6)), (3, .int p3)] dX3_goByDocket_23 (by decide) rfl ?_
  refine g_sub _ [1, 2, 3, 4, 0] rfl ?_
  refine g_lq1 (fun (x4 : Int32) => [(0, .ref (ad 7)), (1, .ref (ad 1)), (2, .ref (ad 6)), (3, .int p3), (4, .int x4)]) (fun self6 hself6 x4 u5 => ?_) F 0 u3
  rw [bX3_goByDocket_25]
  refine g_iload C 25 4 dX3_goByDocket_25 rfl ?_
  refine g_aload_n C 27 1 dX3_goByDocket_27 rfl ?_
  refine gfX_X0_hearings 0 (by decide) C 28 iX0 (List.mem_cons_of_mem _ (List.mem_append_right _ wgL_30_6.1)) dX3_goByDocket_28 ?_
  refine g_icmp_ge C 31 118 dX3_goByDocket_31 (by decide) ?_ ?_
  · skip
    exact g_vret C 118 dX3_goByDocket_118
  · skip
    refine g_aload_n C 34 1 dX3_goByDocket_34 rfl ?_
    refine gfX_X0_docketCase 0 (by decide) C 35 iX0 (List.mem_cons_of_mem _ (List.mem_append_right _ wgL_30_7.1)) dX3_goByDocket_35 ?_
    refine g_iload C 38 4 dX3_goByDocket_38 rfl ?_
    refine g_iald C 40 (10 + 11) 0 (wX_arr 11 (by decide)) rfl dX3_goByDocket_40 ?_
    refine g_istoreV C 41 (fun v7 => [(5, .int v7), (0, .ref (ad 7)), (1, .ref (ad 1)), (2, .ref (ad 6)), (3, .int p3), (4, .int x4)]) dX3_goByDocket_41 (by decide) (fun _ => rfl) (fun v7 => ?_)
    refine g_aload_n C 43 1 dX3_goByDocket_43 rfl ?_
    refine gfX_X3_verdict C 44 iX3 (List.mem_cons_of_mem _ (List.mem_append_right _ wgL_4_18.1)) dX3_goByDocket_44 ?_
    refine g_iload C 47 0 dX3_goByDocket_47 rfl ?_
    refine g_iald C 49 (10 + 59) 0 (wX_arr 59 (by decide)) rfl dX3_goByDocket_49 ?_
    refine g_jn0 112 ([(0, .ref (ad 7)), (1, .ref (ad 1)), (2, .ref (ad 6)), (3, .int p3), (4, .int x4)]) ([]) (fun u8 => ?_) (fun J112 hJ112 => ?_)
    · skip
      refine g_iinc C 112 4 [(4, .int (x4 + 1)), (0, .ref (ad 7)), (1, .ref (ad 1)), (2, .ref (ad 6)), (3, .int p3)] dX3_goByDocket_112 rfl rfl (by decide) rfl ?_
      refine g_goto C 115 25 dX3_goByDocket_115 (by decide) ?_
      exact g_sub _ [1, 2, 3, 4, 0] rfl (hself6 (x4 + 1) u8)
    · skip
      refine g_if_ne C 50 97 dX3_goByDocket_50 (by decide) ?_ ?_
      · skip
        refine g_aload_n C 97 1 dX3_goByDocket_97 rfl ?_
        refine gfX_X3_firstPassed C 98 iX3 (List.mem_cons_of_mem _ (List.mem_append_right _ wgL_4_19.1)) dX3_goByDocket_98 ?_
        refine g_bipush C 101 (-4) dX3_goByDocket_101 rfl ?_
        refine g_icmp_ne C 103 112 dX3_goByDocket_103 (by decide) ?_ ?_
        · skip
          exact g_sub _ [1, 2, 3, 4, 5] rfl (hJ112 u5)
        · skip
          refine g_aload_n C 106 1 dX3_goByDocket_106 rfl ?_
          refine g_iload C 107 5 dX3_goByDocket_107 rfl ?_
          refine pfX_X3_firstPassed C 109 iX3 (List.mem_cons_of_mem _ (List.mem_append_right _ wgL_4_19.1)) dX3_goByDocket_109 (fun u9 => ?_)
          exact g_sub _ [1, 2, 3, 4, 5] rfl (hJ112 u9)
      · skip
        refine g_aload_n C 53 3 dX3_goByDocket_53 rfl ?_
        refine g_aload_n C 54 2 dX3_goByDocket_54 rfl ?_
        refine g_iload C 55 0 dX3_goByDocket_55 rfl ?_
        refine g_aload_n C 57 2 dX3_goByDocket_57 rfl ?_
        refine gfX_X0_docketJudge 0 (by decide) C 58 iX0 (List.mem_cons_of_mem _ (List.mem_append_right _ wgL_30_8.1)) dX3_goByDocket_58 ?_
        refine g_iload C 61 5 dX3_goByDocket_61 rfl ?_
        refine g_iald C 63 (10 + 12) 0 (wX_arr 12 (by decide)) rfl dX3_goByDocket_63 ?_
        refine g_iload_n C 64 4 dX3_goByDocket_64 rfl ?_
        refine g_callVv (st := []) (As := [.ref (ad 1), .int v7, .int (u5.2 12 (Int32.toNatClampNeg x4)), .int p3]) C EX_ok EX_vm 65 6 4 (tX5_prepare F v7 (u5.2 12 (Int32.toNatClampNeg x4)) p3 u5) rfl gX3_goByDocket_X5_prepare rfl rfl rfl (by decide +kernel) ⟨Nat.le_of_ble_eq_true rfl, Nat.le_of_ble_eq_true rfl⟩ rfl rfl rfl (Nat.le_of_ble_eq_true rfl) dX3_goByDocket_65 (fun u10 => ?_)
        refine g_aload_n C 68 1 dX3_goByDocket_68 rfl ?_
        refine gfX_X3_verdict C 69 iX3 (List.mem_cons_of_mem _ (List.mem_append_right _ wgL_4_18.1)) dX3_goByDocket_69 ?_
        refine g_iload C 72 0 dX3_goByDocket_72 rfl ?_
        refine g_aload_n C 74 3 dX3_goByDocket_74 rfl ?_
        refine g_callVi (st := [.int v7, .ref (ad (10 + 59))]) (As := []) C EX_ok EX_vm 75 6 0 (tX5_verdictHeld F u10) rfl gX3_goByDocket_X5_verdictHeld rfl rfl rfl (by decide +kernel) ⟨Nat.le_of_ble_eq_true rfl, Nat.le_of_ble_eq_true rfl⟩ rfl rfl rfl (Nat.le_of_ble_eq_true rfl) dX3_goByDocket_75 (fun r12 u11 => ?_)
        refine g_iast C 78 (10 + 59) 0 59 (wX_arr 59 (by decide)) (wX_aset 59 (by decide)) rfl dX3_goByDocket_78 (fun u13 => ?_)
        refine g_aload_n C 79 1 dX3_goByDocket_79 rfl ?_
        refine g_dup C 80 dX3_goByDocket_80 rfl ?_
        refine gfX_X3_minutes C 81 iX3 (List.mem_cons_of_mem _ (List.mem_append_right _ wgL_4_20.1)) dX3_goByDocket_81 ?_
        refine g_aload_n C 84 3 dX3_goByDocket_84 rfl ?_
        refine gfX_X5_minute C 85 iX5 (List.mem_cons_of_mem _ (List.mem_append_right _ wgL_30_9.1)) dX3_goByDocket_85 ?_
        refine g_iconst C 88 1 dX3_goByDocket_88 rfl ?_
        refine g_iadd C 89 dX3_goByDocket_89 ?_
        refine g_iadd C 90 dX3_goByDocket_90 ?_
        refine pfX_X3_minutes C 91 iX3 (List.mem_cons_of_mem _ (List.mem_append_right _ wgL_4_20.1)) dX3_goByDocket_91 (fun u14 => ?_)
        refine g_goto C 94 112 dX3_goByDocket_94 (by decide) ?_
        exact g_sub _ [1, 2, 3, 4, 5] rfl (hJ112 u14)
def pX6_runs (F : Nat) (p1 : Int32) (u : St) : Option (Int32 × St) :=
  bd (pX6_isIn F (Int32.toInt64 p1) 0 4 u) (fun (r2 : Int32) (u1 : St) => if r2 = 0 then some ((-1), u1) else bd (pX3_goByDocket F 0 u1) (fun (_ : Unit) (u3 : St) => if p1 = 3 then some ((u3.1 27), u3) else if p1 = 4 then some ((u3.1 28), u3) else bd (pX6_bitsOf F 59 (u3.1 0) (p1 + 1) u3) (fun (r5 : Int32) (u4 : St) => some (r5, u4))))
set_option maxRecDepth 100000 in
set_option maxHeartbeats 4000000 in
theorem tX6_runs {l : Launch} {D : va_G} {cI cZ : ClassId} {ad : Nat → Nat} {tBURNS tFLAME_BOUNDS : Nat} {tS : Option Nat} {adK adV : Nat → Nat} (F : Nat) (p1 : Int32) (u : St) : CtI l D [(cI, .int), (cZ, .boolean)] (wX ad cI cZ) (EX tBURNS tFLAME_BOUNDS tS adK adV) yX6_runs wsX6_runs ({ frames := 4, cells := 0, slots := 0, locals := 87 } : Room) [.ref (ad 0), .int p1] u (pX6_runs F p1 u) := by
  refine ctI_of (own := RX6) (cc := cX6_runs) (n := 2) (ret := (some .int)) (by decide) rfl rfl (Nat.le_of_ble_eq_true rfl) (lv := [(0, .ref (ad 0)), (1, .int p1)]) rfl (fun C => ?_)
  have iX0 : ∀ w ∈ wsX00, w ∈ wsX6_runs := fun w h => List.mem_cons_of_mem _ (List.mem_append_right _ (inlX0 w h))
  have iX3 : ∀ w ∈ wsX30, w ∈ wsX6_runs := fun w h => List.mem_cons_of_mem _ (List.mem_append_right _ (inlX3 w h))
  have iX6 : ∀ w ∈ wsX60, w ∈ wsX6_runs := fun w h => List.mem_cons_of_mem _ (List.mem_append_right _ (inlX6 w h))
  rw [pX6_runs]
  refine g_iload_n C 0 1 dX6_runs_0 rfl ?_
  refine g_i2l C 1 dX6_runs_1 ?_
  refine g_iconst C 2 0 dX6_runs_2 rfl ?_
  refine g_iconst C 3 4 dX6_runs_3 rfl ?_
  refine g_callSi (st := []) (As := [.long (Int32.toInt64 p1), .int 0, .int 4]) C EX_ok EX_vm 4 3 (tX6_isIn F (Int32.toInt64 p1) 0 4 u) rfl gX6_runs_X6_isIn rfl rfl rfl (by decide +kernel) ⟨Nat.le_of_ble_eq_true rfl, Nat.le_of_ble_eq_true rfl⟩ rfl (Nat.le_of_ble_eq_true rfl) dX6_runs_4 (fun r2 u1 => ?_)
  refine g_if_ne C 7 12 dX6_runs_7 (by decide) ?_ ?_
  · skip
    refine g_aload_n C 12 0 dX6_runs_12 rfl ?_
    refine gfX_X6_round C 13 iX6 (List.mem_cons_of_mem _ (List.mem_append_right _ wgL_2_7.1)) dX6_runs_13 ?_
    refine g_aload_n C 16 0 dX6_runs_16 rfl ?_
    refine gfX_X6_court C 17 iX6 (List.mem_cons_of_mem _ (List.mem_append_right _ wgL_1_15.1)) dX6_runs_17 ?_
    refine g_aload_n C 20 0 dX6_runs_20 rfl ?_
    refine gfX_X6_trial C 21 iX6 (List.mem_cons_of_mem _ (List.mem_append_right _ wgL_2_3.1)) dX6_runs_21 ?_
    refine g_iconst C 24 0 dX6_runs_24 rfl ?_
    refine g_callVv (st := []) (As := [.ref (ad 1), .ref (ad 6), .int 0]) C EX_ok EX_vm 25 7 3 (tX3_goByDocket F 0 u1) rfl gX6_runs_X3_goByDocket rfl rfl rfl (by decide +kernel) ⟨Nat.le_of_ble_eq_true rfl, Nat.le_of_ble_eq_true rfl⟩ rfl rfl rfl (Nat.le_of_ble_eq_true rfl) dX6_runs_25 (fun u3 => ?_)
    refine g_iload_n C 28 1 dX6_runs_28 rfl ?_
    refine g_iconst C 29 3 dX6_runs_29 rfl ?_
    refine g_icmp_ne C 30 41 dX6_runs_30 (by decide) ?_ ?_
    · skip
      refine g_iload_n C 41 1 dX6_runs_41 rfl ?_
      refine g_iconst C 42 4 dX6_runs_42 rfl ?_
      refine g_icmp_ne C 43 56 dX6_runs_43 (by decide) ?_ ?_
      · skip
        refine g_aload_n C 56 0 dX6_runs_56 rfl ?_
        refine gfX_X6_round C 57 iX6 (List.mem_cons_of_mem _ (List.mem_append_right _ wgL_2_7.1)) dX6_runs_57 ?_
        refine gfX_X3_verdict C 60 iX3 (List.mem_cons_of_mem _ (List.mem_append_right _ wgL_30_0.1)) dX6_runs_60 ?_
        refine g_aload_n C 63 0 dX6_runs_63 rfl ?_
        refine gfX_X6_court C 64 iX6 (List.mem_cons_of_mem _ (List.mem_append_right _ wgL_1_15.1)) dX6_runs_64 ?_
        refine gfX_X0_cases 0 (by decide) C 67 iX0 (List.mem_cons_of_mem _ (List.mem_append_right _ wgL_18_5.1)) dX6_runs_67 ?_
        refine g_iload_n C 70 1 dX6_runs_70 rfl ?_
        refine g_iconst C 71 1 dX6_runs_71 rfl ?_
        refine g_iadd C 72 dX6_runs_72 ?_
        refine g_callSi (st := []) (As := [.ref (ad (10 + 59)), .int (u3.1 0), .int (p1 + 1)]) C EX_ok EX_vm 73 3 (tX6_bitsOf F 59 (by decide) (u3.1 0) (p1 + 1) u3) rfl gX6_runs_X6_bitsOf rfl rfl rfl (by decide +kernel) ⟨Nat.le_of_ble_eq_true rfl, Nat.le_of_ble_eq_true rfl⟩ rfl (Nat.le_of_ble_eq_true rfl) dX6_runs_73 (fun r5 u4 => ?_)
        exact g_iret C 76 dX6_runs_76
      · skip
        refine g_aload_n C 46 0 dX6_runs_46 rfl ?_
        refine gfX_X6_round C 47 iX6 (List.mem_cons_of_mem _ (List.mem_append_right _ wgL_2_7.1)) dX6_runs_47 ?_
        refine gfX_X3_minutes C 50 iX3 (List.mem_cons_of_mem _ (List.mem_append_right _ wgL_29_23.1)) dX6_runs_50 ?_
        refine g_goto C 53 76 dX6_runs_53 (by decide) ?_
        exact g_iret C 76 dX6_runs_76
    · skip
      refine g_aload_n C 33 0 dX6_runs_33 rfl ?_
      refine gfX_X6_round C 34 iX6 (List.mem_cons_of_mem _ (List.mem_append_right _ wgL_2_7.1)) dX6_runs_34 ?_
      refine gfX_X3_firstPassed C 37 iX3 (List.mem_cons_of_mem _ (List.mem_append_right _ wgL_29_22.1)) dX6_runs_37 ?_
      exact g_iret C 40 dX6_runs_40
  · skip
    refine g_iconst C 10 (-1) dX6_runs_10 rfl ?_
    exact g_iret C 11 dX6_runs_11
def pX6_ahead (F : Nat) (p1 : Int32) (u : St) : Option (Int32 × St) :=
  bd (pX0_hasCase F 0 (Int32.toInt64 p1) u) (fun (r2 : Int32) (u1 : St) => if r2 = 0 then some ((-1), u1) else bd (pX3_goByDocket F 0 u1) (fun (_ : Unit) (u3 : St) => gd (inb p1 4) (some ((u3.2 59 (Int32.toNatClampNeg p1)), u3))))
set_option maxRecDepth 100000 in
set_option maxHeartbeats 4000000 in
theorem tX6_ahead {l : Launch} {D : va_G} {cI cZ : ClassId} {ad : Nat → Nat} {tBURNS tFLAME_BOUNDS : Nat} {tS : Option Nat} {adK adV : Nat → Nat} (F : Nat) (p1 : Int32) (u : St) : CtI l D [(cI, .int), (cZ, .boolean)] (wX ad cI cZ) (EX tBURNS tFLAME_BOUNDS tS adK adV) yX6_ahead wsX6_ahead ({ frames := 4, cells := 0, slots := 0, locals := 87 } : Room) [.ref (ad 0), .int p1] u (pX6_ahead F p1 u) := by
  refine ctI_of (own := RX6) (cc := cX6_ahead) (n := 2) (ret := (some .int)) (by decide) rfl rfl (Nat.le_of_ble_eq_true rfl) (lv := [(0, .ref (ad 0)), (1, .int p1)]) rfl (fun C => ?_)
  have iX3 : ∀ w ∈ wsX30, w ∈ wsX6_ahead := fun w h => List.mem_cons_of_mem _ (List.mem_append_right _ (inlX3 w h))
  have iX6 : ∀ w ∈ wsX60, w ∈ wsX6_ahead := fun w h => List.mem_cons_of_mem _ (List.mem_append_right _ (inlX6 w h))
  rw [pX6_ahead]
  refine g_aload_n C 0 0 dX6_ahead_0 rfl ?_
  refine gfX_X6_court C 1 iX6 (List.mem_cons_of_mem _ (List.mem_append_right _ wgL_1_15.1)) dX6_ahead_1 ?_
  refine g_iload_n C 4 1 dX6_ahead_4 rfl ?_
  refine g_i2l C 5 dX6_ahead_5 ?_
  refine g_callVi (st := []) (As := [.long (Int32.toInt64 p1)]) C EX_ok EX_vm 6 1 1 (tX0_hasCase F 0 (by decide) (Int32.toInt64 p1) u) rfl gX6_ahead_X0_hasCase rfl rfl rfl (by decide +kernel) ⟨Nat.le_of_ble_eq_true rfl, Nat.le_of_ble_eq_true rfl⟩ (wX_X0 ad cI cZ _ 0 (by decide)) rfl rfl (Nat.le_of_ble_eq_true rfl) dX6_ahead_6 (fun r2 u1 => ?_)
  refine g_if_ne C 9 14 dX6_ahead_9 (by decide) ?_ ?_
  · skip
    refine g_aload_n C 14 0 dX6_ahead_14 rfl ?_
    refine gfX_X6_round C 15 iX6 (List.mem_cons_of_mem _ (List.mem_append_right _ wgL_2_7.1)) dX6_ahead_15 ?_
    refine g_aload_n C 18 0 dX6_ahead_18 rfl ?_
    refine gfX_X6_court C 19 iX6 (List.mem_cons_of_mem _ (List.mem_append_right _ wgL_1_15.1)) dX6_ahead_19 ?_
    refine g_aload_n C 22 0 dX6_ahead_22 rfl ?_
    refine gfX_X6_trial C 23 iX6 (List.mem_cons_of_mem _ (List.mem_append_right _ wgL_2_3.1)) dX6_ahead_23 ?_
    refine g_iconst C 26 0 dX6_ahead_26 rfl ?_
    refine g_callVv (st := []) (As := [.ref (ad 1), .ref (ad 6), .int 0]) C EX_ok EX_vm 27 7 3 (tX3_goByDocket F 0 u1) rfl gX6_ahead_X3_goByDocket rfl rfl rfl (by decide +kernel) ⟨Nat.le_of_ble_eq_true rfl, Nat.le_of_ble_eq_true rfl⟩ rfl rfl rfl (Nat.le_of_ble_eq_true rfl) dX6_ahead_27 (fun u3 => ?_)
    refine g_aload_n C 30 0 dX6_ahead_30 rfl ?_
    refine gfX_X6_round C 31 iX6 (List.mem_cons_of_mem _ (List.mem_append_right _ wgL_2_7.1)) dX6_ahead_31 ?_
    refine gfX_X3_verdict C 34 iX3 (List.mem_cons_of_mem _ (List.mem_append_right _ wgL_30_0.1)) dX6_ahead_34 ?_
    refine g_iload_n C 37 1 dX6_ahead_37 rfl ?_
    refine g_iald C 38 (10 + 59) 0 (wX_arr 59 (by decide)) rfl dX6_ahead_38 ?_
    exact g_iret C 39 dX6_ahead_39
  · skip
    refine g_iconst C 12 (-1) dX6_ahead_12 rfl ?_
    exact g_iret C 13 dX6_ahead_13
def bX6_judgesFor_5 (F : Nat) (p1 : Int32) (p2 : Int32) (self4 : Int32 → Int32 → St → Option (Int32 × St)) (x1 : Int32) (x2 : Int32) (u3 : St) : Option (Int32 × St) :=
  if (u3.1 1) ≤ x2 then some (x1, u3) else bd (pX6_verdictNow F p1 x2 u3) (fun (r6 : Int32) (u5 : St) => jn (fun (a7 : Int32) (u8 : St) => vl (x1 ||| a7) (fun v9 => (self4 v9 (x2 + 1) u8))) (fun (J39 : Int32 → St → Option (Int32 × St)) => if r6 = (p2 + 1) then (J39 (1 <<< (x2 &&& 31)) u5) else (J39 0 u5)))
def pX6_judgesFor (F : Nat) (p1 : Int32) (p2 : Int32) (u : St) : Option (Int32 × St) :=
  (lq2 (bX6_judgesFor_5 F p1 p2) F 0 0 u)
set_option maxRecDepth 100000 in
set_option maxHeartbeats 4000000 in
theorem tX6_judgesFor {l : Launch} {D : va_G} {cI cZ : ClassId} {ad : Nat → Nat} {tBURNS tFLAME_BOUNDS : Nat} {tS : Option Nat} {adK adV : Nat → Nat} (F : Nat) (p1 : Int32) (p2 : Int32) (u : St) : CtI l D [(cI, .int), (cZ, .boolean)] (wX ad cI cZ) (EX tBURNS tFLAME_BOUNDS tS adK adV) yX6_judgesFor wsX6_judgesFor ({ frames := 5, cells := 0, slots := 0, locals := 107 } : Room) [.ref (ad 0), .int p1, .int p2] u (pX6_judgesFor F p1 p2 u) := by
  refine ctI_of (own := RX6) (cc := cX6_judgesFor) (n := 5) (ret := (some .int)) (by decide) rfl rfl (Nat.le_of_ble_eq_true rfl) (lv := [(0, .ref (ad 0)), (1, .int p1), (2, .int p2)]) rfl (fun C => ?_)
  have iX0 : ∀ w ∈ wsX00, w ∈ wsX6_judgesFor := fun w h => List.mem_cons_of_mem _ (List.mem_append_right _ (inlX0 w h))
  have iX6 : ∀ w ∈ wsX60, w ∈ wsX6_judgesFor := fun w h => List.mem_cons_of_mem _ (List.mem_append_right _ (inlX6 w h))
  rw [pX6_judgesFor]
  refine g_iconst C 0 0 dX6_judgesFor_0 rfl ?_
  refine g_istore_n C 1 [(3, .int 0), (0, .ref (ad 0)), (1, .int p1), (2, .int p2)] dX6_judgesFor_1 (by decide) rfl ?_
  refine g_iconst C 2 0 dX6_judgesFor_2 rfl ?_
  refine g_istore C 3 [(4, .int 0), (3, .int 0), (0, .ref (ad 0)), (1, .int p1), (2, .int p2)] dX6_judgesFor_3 (by decide) rfl ?_
  refine g_sub _ [2, 3, 4, 1, 0] rfl ?_
  refine g_lq2 (fun (x1 : Int32) (x2 : Int32) => [(0, .ref (ad 0)), (1, .int p1), (2, .int p2), (3, .int x1), (4, .int x2)]) (fun self4 hself4 x1 x2 u3 => ?_) F 0 0 u
  rw [bX6_judgesFor_5]
  refine g_iload C 5 4 dX6_judgesFor_5 rfl ?_
  refine g_aload_n C 7 0 dX6_judgesFor_7 rfl ?_
  refine gfX_X6_court C 8 iX6 (List.mem_cons_of_mem _ (List.mem_append_right _ wgL_1_15.1)) dX6_judgesFor_8 ?_
  refine gfX_X0_judges 0 (by decide) C 11 iX0 (List.mem_cons_of_mem _ (List.mem_append_right _ wgL_18_6.1)) dX6_judgesFor_11 ?_
  refine g_icmp_ge C 14 47 dX6_judgesFor_14 (by decide) ?_ ?_
  · skip
    refine g_iload_n C 47 3 dX6_judgesFor_47 rfl ?_
    exact g_iret C 48 dX6_judgesFor_48
  · skip
    refine g_iload_n C 17 3 dX6_judgesFor_17 rfl ?_
    refine g_aload_n C 18 0 dX6_judgesFor_18 rfl ?_
    refine g_iload_n C 19 1 dX6_judgesFor_19 rfl ?_
    refine g_iload C 20 4 dX6_judgesFor_20 rfl ?_
    refine g_callVi (st := [.int x1]) (As := [.int p1, .int x2]) C EX_ok EX_vm 22 0 2 (tX6_verdictNow F p1 x2 u3) rfl gX6_judgesFor_X6_verdictNow rfl rfl rfl (by decide +kernel) ⟨Nat.le_of_ble_eq_true rfl, Nat.le_of_ble_eq_true rfl⟩ rfl rfl rfl (Nat.le_of_ble_eq_true rfl) dX6_judgesFor_22 (fun r6 u5 => ?_)
    refine g_iload_n C 25 2 dX6_judgesFor_25 rfl ?_
    refine g_iconst C 26 1 dX6_judgesFor_26 rfl ?_
    refine g_iadd C 27 dX6_judgesFor_27 ?_
    refine g_jn1 39 (fun (a7 : Int32) => [(0, .ref (ad 0)), (1, .int p1), (2, .int p2), (4, .int x2)]) (fun (a7 : Int32) => [.int a7, .int x1]) (fun a7 u8 => ?_) (fun J39 hJ39 => ?_)
    · skip
      refine g_ior C 39 dX6_judgesFor_39 ?_
      refine g_istore_nV C 40 (fun v9 => [(3, .int v9), (0, .ref (ad 0)), (1, .int p1), (2, .int p2), (4, .int x2)]) dX6_judgesFor_40 (by decide) (fun _ => rfl) (fun v9 => ?_)
      refine g_iinc C 41 4 [(4, .int (x2 + 1)), (3, .int v9), (0, .ref (ad 0)), (1, .int p1), (2, .int p2)] dX6_judgesFor_41 rfl rfl (by decide) rfl ?_
      refine g_goto C 44 5 dX6_judgesFor_44 (by decide) ?_
      exact g_sub _ [2, 3, 4, 1, 0] rfl (hself4 v9 (x2 + 1) u8)
    · skip
      refine g_icmp_ne C 28 38 dX6_judgesFor_28 (by decide) ?_ ?_
      · skip
        refine g_iconst C 38 0 dX6_judgesFor_38 rfl ?_
        exact g_sub _ [0, 1, 2, 4] rfl (hJ39 0 u5)
      · skip
        refine g_iconst C 31 1 dX6_judgesFor_31 rfl ?_
        refine g_iload C 32 4 dX6_judgesFor_32 rfl ?_
        refine g_ishl C 34 dX6_judgesFor_34 ?_
        refine g_goto C 35 39 dX6_judgesFor_35 (by decide) ?_
        exact g_sub _ [0, 1, 2, 4] rfl (hJ39 (1 <<< (x2 &&& 31)) u5)
def pX6_friends (F : Nat) (p1 : Int32) (p2 : Int32) (u : St) : Option (Int32 × St) :=
  bd (pX6_isFlame F p1 p2 u) (fun (r2 : Int32) (u1 : St) => if r2 = 0 then some ((-1), u1) else bd (pX6_judgesFor F p1 p2 u1) (fun (r4 : Int32) (u3 : St) => some (r4, u3)))
set_option maxRecDepth 100000 in
set_option maxHeartbeats 4000000 in
theorem tX6_friends {l : Launch} {D : va_G} {cI cZ : ClassId} {ad : Nat → Nat} {tBURNS tFLAME_BOUNDS : Nat} {tS : Option Nat} {adK adV : Nat → Nat} (F : Nat) (p1 : Int32) (p2 : Int32) (u : St) : CtI l D [(cI, .int), (cZ, .boolean)] (wX ad cI cZ) (EX tBURNS tFLAME_BOUNDS tS adK adV) yX6_friends wsX6_friends ({ frames := 6, cells := 0, slots := 0, locals := 131 } : Room) [.ref (ad 0), .int p1, .int p2] u (pX6_friends F p1 p2 u) := by
  refine ctI_of (own := RX6) (cc := cX6_friends) (n := 3) (ret := (some .int)) (by decide) rfl rfl (Nat.le_of_ble_eq_true rfl) (lv := [(0, .ref (ad 0)), (1, .int p1), (2, .int p2)]) rfl (fun C => ?_)
  rw [pX6_friends]
  refine g_aload_n C 0 0 dX6_friends_0 rfl ?_
  refine g_iload_n C 1 1 dX6_friends_1 rfl ?_
  refine g_iload_n C 2 2 dX6_friends_2 rfl ?_
  refine g_callVi (st := []) (As := [.int p1, .int p2]) C EX_ok EX_vm 3 0 2 (tX6_isFlame F p1 p2 u) rfl gX6_friends_X6_isFlame rfl rfl rfl (by decide +kernel) ⟨Nat.le_of_ble_eq_true rfl, Nat.le_of_ble_eq_true rfl⟩ rfl rfl rfl (Nat.le_of_ble_eq_true rfl) dX6_friends_3 (fun r2 u1 => ?_)
  refine g_if_eq C 6 18 dX6_friends_6 (by decide) ?_ ?_
  · skip
    refine g_iconst C 18 (-1) dX6_friends_18 rfl ?_
    exact g_iret C 19 dX6_friends_19
  · skip
    refine g_aload_n C 9 0 dX6_friends_9 rfl ?_
    refine g_iload_n C 10 1 dX6_friends_10 rfl ?_
    refine g_iload_n C 11 2 dX6_friends_11 rfl ?_
    refine g_callVi (st := []) (As := [.int p1, .int p2]) C EX_ok EX_vm 12 0 2 (tX6_judgesFor F p1 p2 u1) rfl gX6_friends_X6_judgesFor rfl rfl rfl (by decide +kernel) ⟨Nat.le_of_ble_eq_true rfl, Nat.le_of_ble_eq_true rfl⟩ rfl rfl rfl (Nat.le_of_ble_eq_true rfl) dX6_friends_12 (fun r4 u3 => ?_)
    refine g_goto C 15 19 dX6_friends_15 (by decide) ?_
    exact g_iret C 19 dX6_friends_19
def pX5_change (F : Nat) (p1 : Int32) (p2 : Int32) (p3 : Int32) (u : St) : Option (Unit × St) :=
  if p2 = 0 then gd (inb p1 2) (vl (sta u 55 p1 p3) (fun (u3 : St) => some ((), u3))) else if p2 = 1 then gd (inb p1 2) (vl (sta u 56 p1 p3) (fun (u2 : St) => some ((), u2))) else gd (inb p1 2) (vl (sta u 57 p1 p3) (fun (u1 : St) => some ((), u1)))
set_option maxRecDepth 100000 in
set_option maxHeartbeats 4000000 in
theorem tX5_change {l : Launch} {D : va_G} {cI cZ : ClassId} {ad : Nat → Nat} {tBURNS tFLAME_BOUNDS : Nat} {tS : Option Nat} {adK adV : Nat → Nat} (F : Nat) (p1 : Int32) (p2 : Int32) (p3 : Int32) (u : St) : CtV l D [(cI, .int), (cZ, .boolean)] (wX ad cI cZ) (EX tBURNS tFLAME_BOUNDS tS adK adV) yX5_change wsX5_change ({ frames := 0, cells := 0, slots := 0, locals := 0 } : Room) [.ref (ad 6), .int p1, .int p2, .int p3] u (pX5_change F p1 p2 p3 u) := by
  refine ctV_of (own := RX5) (cc := cX5_change) (n := 4) (ret := none) (by decide) rfl rfl (Nat.le_of_ble_eq_true rfl) (lv := [(0, .ref (ad 6)), (1, .int p1), (2, .int p2), (3, .int p3)]) rfl (fun C => ?_)
  have iX5 : ∀ w ∈ wsX50, w ∈ wsX5_change := fun w h => List.mem_cons_of_mem _ (List.mem_append_right _ (inlX5 w h))
  rw [pX5_change]
  refine g_iload_n C 0 2 dX5_change_0 rfl ?_
  refine g_if_ne C 1 14 dX5_change_1 (by decide) ?_ ?_
  · skip
    refine g_iload_n C 14 2 dX5_change_14 rfl ?_
    refine g_iconst C 15 1 dX5_change_15 rfl ?_
    refine g_icmp_ne C 16 29 dX5_change_16 (by decide) ?_ ?_
    · skip
      refine g_aload_n C 29 0 dX5_change_29 rfl ?_
      refine gfX_X5_guard C 30 iX5 (List.mem_cons_of_mem _ (List.mem_append_right _ wgL_4_10.1)) dX5_change_30 ?_
      refine g_iload_n C 33 1 dX5_change_33 rfl ?_
      refine g_iload_n C 34 3 dX5_change_34 rfl ?_
      refine g_iast C 35 (10 + 57) 0 57 (wX_arr 57 (by decide)) (wX_aset 57 (by decide)) rfl dX5_change_35 (fun u1 => ?_)
      exact g_vret C 36 dX5_change_36
    · skip
      refine g_aload_n C 19 0 dX5_change_19 rfl ?_
      refine gfX_X5_length C 20 iX5 (List.mem_cons_of_mem _ (List.mem_append_right _ wgL_4_9.1)) dX5_change_20 ?_
      refine g_iload_n C 23 1 dX5_change_23 rfl ?_
      refine g_iload_n C 24 3 dX5_change_24 rfl ?_
      refine g_iast C 25 (10 + 56) 0 56 (wX_arr 56 (by decide)) (wX_aset 56 (by decide)) rfl dX5_change_25 (fun u2 => ?_)
      refine g_goto C 26 36 dX5_change_26 (by decide) ?_
      exact g_vret C 36 dX5_change_36
  · skip
    refine g_aload_n C 4 0 dX5_change_4 rfl ?_
    refine gfX_X5_kind C 5 iX5 (List.mem_cons_of_mem _ (List.mem_append_right _ wgL_4_8.1)) dX5_change_5 ?_
    refine g_iload_n C 8 1 dX5_change_8 rfl ?_
    refine g_iload_n C 9 3 dX5_change_9 rfl ?_
    refine g_iast C 10 (10 + 55) 0 55 (wX_arr 55 (by decide)) (wX_aset 55 (by decide)) rfl dX5_change_10 (fun u3 => ?_)
    refine g_goto C 11 36 dX5_change_11 (by decide) ?_
    exact g_vret C 36 dX5_change_36
def bX6_firstThatWins_25 (F : Nat) (p1 : Int32) (p2 : Int32) (p3 : Int32) (p4 : Int32) (self7 : Int32 → St → Option (Int32 × St)) (x5 : Int32) (u6 : St) : Option (Int32 × St) :=
  gd (inb p4 3) (if (tabFLAME_BOUNDS (Int32.toNatClampNeg p4)) < x5 then some ((-4), u6) else bd (pX6_prepare F p1 p3 0 u6) (fun (_ : Unit) (u8 : St) => bd (pX5_change F p2 p4 x5 u8) (fun (_ : Unit) (u9 : St) => bd (pX5_verdictHeld F u9) (fun (r11 : Int32) (u10 : St) => if r11 = (p2 + 1) then some (x5, u10) else (self7 (x5 + 1) u10)))))
def pX6_firstThatWins (F : Nat) (p1 : Int32) (p2 : Int32) (p3 : Int32) (p4 : Int32) (u : St) : Option (Int32 × St) :=
  bd (pX6_isFlame F p1 p2 u) (fun (r2 : Int32) (u1 : St) => if r2 = 0 then some ((-1), u1) else bd (pX0_hasJudge F 0 p3 u1) (fun (r4 : Int32) (u3 : St) => if r4 = 0 then some ((-1), u3) else (lq1 (bX6_firstThatWins_25 F p1 p2 p3 p4) F 0 u3)))
set_option maxRecDepth 100000 in
set_option maxHeartbeats 4000000 in
theorem tX6_firstThatWins {l : Launch} {D : va_G} {cI cZ : ClassId} {ad : Nat → Nat} {tBURNS tFLAME_BOUNDS : Nat} {tS : Option Nat} {adK adV : Nat → Nat} (F : Nat) (p1 : Int32) (p2 : Int32) (p3 : Int32) (p4 : Int32) (u : St) : CtI l D [(cI, .int), (cZ, .boolean)] (wX ad cI cZ) (EX tBURNS tFLAME_BOUNDS tS adK adV) yX6_firstThatWins wsX6_firstThatWins ({ frames := 4, cells := 0, slots := 0, locals := 85 } : Room) [.ref (ad 0), .int p1, .int p2, .int p3, .int p4] u (pX6_firstThatWins F p1 p2 p3 p4 u) := by
  refine ctI_of (own := RX6) (cc := cX6_firstThatWins) (n := 6) (ret := (some .int)) (by decide) rfl rfl (Nat.le_of_ble_eq_true rfl) (lv := [(0, .ref (ad 0)), (1, .int p1), (2, .int p2), (3, .int p3), (4, .int p4)]) rfl (fun C => ?_)
  have iX6 : ∀ w ∈ wsX60, w ∈ wsX6_firstThatWins := fun w h => List.mem_cons_of_mem _ (List.mem_append_right _ (inlX6 w h))
  rw [pX6_firstThatWins]
  refine g_aload_n C 0 0 dX6_firstThatWins_0 rfl ?_
  refine g_iload_n C 1 1 dX6_firstThatWins_1 rfl ?_
  refine g_iload_n C 2 2 dX6_firstThatWins_2 rfl ?_
  refine g_callVi (st := []) (As := [.int p1, .int p2]) C EX_ok EX_vm 3 0 2 (tX6_isFlame F p1 p2 u) rfl gX6_firstThatWins_X6_isFlame rfl rfl rfl (by decide +kernel) ⟨Nat.le_of_ble_eq_true rfl, Nat.le_of_ble_eq_true rfl⟩ rfl rfl rfl (Nat.le_of_ble_eq_true rfl) dX6_firstThatWins_3 (fun r2 u1 => ?_)
  refine g_if_eq C 6 20 dX6_firstThatWins_6 (by decide) ?_ ?_
  · skip
    refine g_iconst C 20 (-1) dX6_firstThatWins_20 rfl ?_
    exact g_iret C 21 dX6_firstThatWins_21
  · skip
    refine g_aload_n C 9 0 dX6_firstThatWins_9 rfl ?_
    refine gfX_X6_court C 10 iX6 (List.mem_cons_of_mem _ (List.mem_append_right _ wgL_1_15.1)) dX6_firstThatWins_10 ?_
    refine g_iload_n C 13 3 dX6_firstThatWins_13 rfl ?_
    refine g_callVi (st := []) (As := [.int p3]) C EX_ok EX_vm 14 1 1 (tX0_hasJudge F 0 (by decide) p3 u1) rfl gX6_firstThatWins_X0_hasJudge rfl rfl rfl (by decide +kernel) ⟨Nat.le_of_ble_eq_true rfl, Nat.le_of_ble_eq_true rfl⟩ (wX_X0 ad cI cZ _ 0 (by decide)) rfl rfl (Nat.le_of_ble_eq_true rfl) dX6_firstThatWins_14 (fun r4 u3 => ?_)
    refine g_if_ne C 17 22 dX6_firstThatWins_17 (by decide) ?_ ?_
    · skip
      refine g_iconst C 22 0 dX6_firstThatWins_22 rfl ?_
      refine g_istore C 23 [(5, .int 0), (0, .ref (ad 0)), (1, .int p1), (2, .int p2), (3, .int p3), (4, .int p4)] dX6_firstThatWins_23 (by decide) rfl ?_
      refine g_sub _ [1, 2, 3, 4, 5, 0] rfl ?_
      refine g_lq1 (fun (x5 : Int32) => [(0, .ref (ad 0)), (1, .int p1), (2, .int p2), (3, .int p3), (4, .int p4), (5, .int x5)]) (fun self7 hself7 x5 u6 => ?_) F 0 u3
      rw [bX6_firstThatWins_25]
      refine g_iload C 25 5 dX6_firstThatWins_25 rfl ?_
      refine g_gets C 27 (EX_zFLAME_BOUNDS C.2.2.2.2.2.2.2.2.1) (by decide +kernel) dX6_firstThatWins_27 ?_
      refine g_iload C 30 4 dX6_firstThatWins_30 rfl ?_
      refine g_ti C 32 (EX_tFLAME_BOUNDS C.2.2.2.2.2.2.2.2.1) dX6_firstThatWins_32 ?_
      refine g_icmp_gt C 33 77 dX6_firstThatWins_33 (by decide) ?_ ?_
      · skip
        refine g_bipush C 77 (-4) dX6_firstThatWins_77 rfl ?_
        exact g_iret C 79 dX6_firstThatWins_79
      · skip
        refine g_aload_n C 36 0 dX6_firstThatWins_36 rfl ?_
        refine g_iload_n C 37 1 dX6_firstThatWins_37 rfl ?_
        refine g_iload_n C 38 3 dX6_firstThatWins_38 rfl ?_
        refine g_iconst C 39 0 dX6_firstThatWins_39 rfl ?_
        refine g_callVv (st := []) (As := [.int p1, .int p3, .int 0]) C EX_ok EX_vm 40 0 3 (tX6_prepare F p1 p3 0 u6) rfl gX6_firstThatWins_X6_prepare rfl rfl rfl (by decide +kernel) ⟨Nat.le_of_ble_eq_true rfl, Nat.le_of_ble_eq_true rfl⟩ rfl rfl rfl (Nat.le_of_ble_eq_true rfl) dX6_firstThatWins_40 (fun u8 => ?_)
        refine g_aload_n C 43 0 dX6_firstThatWins_43 rfl ?_
        refine gfX_X6_trial C 44 iX6 (List.mem_cons_of_mem _ (List.mem_append_right _ wgL_2_3.1)) dX6_firstThatWins_44 ?_
        refine g_iload_n C 47 2 dX6_firstThatWins_47 rfl ?_
        refine g_iload C 48 4 dX6_firstThatWins_48 rfl ?_
        refine g_iload C 50 5 dX6_firstThatWins_50 rfl ?_
        refine g_callVv (st := []) (As := [.int p2, .int p4, .int x5]) C EX_ok EX_vm 52 6 3 (tX5_change F p2 p4 x5 u8) rfl gX6_firstThatWins_X5_change rfl rfl rfl (by decide +kernel) ⟨Nat.le_of_ble_eq_true rfl, Nat.le_of_ble_eq_true rfl⟩ rfl rfl rfl (Nat.le_of_ble_eq_true rfl) dX6_firstThatWins_52 (fun u9 => ?_)
        refine g_aload_n C 55 0 dX6_firstThatWins_55 rfl ?_
        refine gfX_X6_trial C 56 iX6 (List.mem_cons_of_mem _ (List.mem_append_right _ wgL_2_3.1)) dX6_firstThatWins_56 ?_
        refine g_callVi (st := []) (As := []) C EX_ok EX_vm 59 6 0 (tX5_verdictHeld F u9) rfl gX6_firstThatWins_X5_verdictHeld rfl rfl rfl (by decide +kernel) ⟨Nat.le_of_ble_eq_true rfl, Nat.le_of_ble_eq_true rfl⟩ rfl rfl rfl (Nat.le_of_ble_eq_true rfl) dX6_firstThatWins_59 (fun r11 u10 => ?_)
        refine g_iload_n C 62 2 dX6_firstThatWins_62 rfl ?_
        refine g_iconst C 63 1 dX6_firstThatWins_63 rfl ?_
        refine g_iadd C 64 dX6_firstThatWins_64 ?_
        refine g_icmp_ne C 65 71 dX6_firstThatWins_65 (by decide) ?_ ?_
        · skip
          refine g_iinc C 71 5 [(5, .int (x5 + 1)), (0, .ref (ad 0)), (1, .int p1), (2, .int p2), (3, .int p3), (4, .int p4)] dX6_firstThatWins_71 rfl rfl (by decide) rfl ?_
          refine g_goto C 74 25 dX6_firstThatWins_74 (by decide) ?_
          exact g_sub _ [1, 2, 3, 4, 5, 0] rfl (hself7 (x5 + 1) u10)
        · skip
          refine g_iload C 68 5 dX6_firstThatWins_68 rfl ?_
          exact g_iret C 70 dX6_firstThatWins_70
    · skip
      refine g_iconst C 20 (-1) dX6_firstThatWins_20 rfl ?_
      exact g_iret C 21 dX6_firstThatWins_21
def pX6_wax (F : Nat) (p1 : Int32) (p2 : Int32) (p3 : Int32) (u : St) : Option (Int32 × St) :=
  bd (pX6_firstThatWins F p1 p2 p3 0 u) (fun (r2 : Int32) (u1 : St) => some (r2, u1))
set_option maxRecDepth 100000 in
set_option maxHeartbeats 4000000 in
theorem tX6_wax {l : Launch} {D : va_G} {cI cZ : ClassId} {ad : Nat → Nat} {tBURNS tFLAME_BOUNDS : Nat} {tS : Option Nat} {adK adV : Nat → Nat} (F : Nat) (p1 : Int32) (p2 : Int32) (p3 : Int32) (u : St) : CtI l D [(cI, .int), (cZ, .boolean)] (wX ad cI cZ) (EX tBURNS tFLAME_BOUNDS tS adK adV) yX6_wax wsX6_wax ({ frames := 5, cells := 0, slots := 0, locals := 110 } : Room) [.ref (ad 0), .int p1, .int p2, .int p3] u (pX6_wax F p1 p2 p3 u) := by
  refine ctI_of (own := RX6) (cc := cX6_wax) (n := 4) (ret := (some .int)) (by decide) rfl rfl (Nat.le_of_ble_eq_true rfl) (lv := [(0, .ref (ad 0)), (1, .int p1), (2, .int p2), (3, .int p3)]) rfl (fun C => ?_)
  rw [pX6_wax]
  refine g_aload_n C 0 0 dX6_wax_0 rfl ?_
  refine g_iload_n C 1 1 dX6_wax_1 rfl ?_
  refine g_iload_n C 2 2 dX6_wax_2 rfl ?_
  refine g_iload_n C 3 3 dX6_wax_3 rfl ?_
  refine g_iconst C 4 0 dX6_wax_4 rfl ?_
  refine g_callVi (st := []) (As := [.int p1, .int p2, .int p3, .int 0]) C EX_ok EX_vm 5 0 4 (tX6_firstThatWins F p1 p2 p3 0 u) rfl gX6_wax_X6_firstThatWins rfl rfl rfl (by decide +kernel) ⟨Nat.le_of_ble_eq_true rfl, Nat.le_of_ble_eq_true rfl⟩ rfl rfl rfl (Nat.le_of_ble_eq_true rfl) dX6_wax_5 (fun r2 u1 => ?_)
  exact g_iret C 8 dX6_wax_8
def pX6_least (F : Nat) (p1 : Int32) (p2 : Int32) (p3 : Int32) (u : St) : Option (Int32 × St) :=
  bd (pX6_firstThatWins F p1 p2 p3 1 u) (fun (r2 : Int32) (u1 : St) => some (r2, u1))
set_option maxRecDepth 100000 in
set_option maxHeartbeats 4000000 in
theorem tX6_least {l : Launch} {D : va_G} {cI cZ : ClassId} {ad : Nat → Nat} {tBURNS tFLAME_BOUNDS : Nat} {tS : Option Nat} {adK adV : Nat → Nat} (F : Nat) (p1 : Int32) (p2 : Int32) (p3 : Int32) (u : St) : CtI l D [(cI, .int), (cZ, .boolean)] (wX ad cI cZ) (EX tBURNS tFLAME_BOUNDS tS adK adV) yX6_least wsX6_least ({ frames := 5, cells := 0, slots := 0, locals := 110 } : Room) [.ref (ad 0), .int p1, .int p2, .int p3] u (pX6_least F p1 p2 p3 u) := by
  refine ctI_of (own := RX6) (cc := cX6_least) (n := 4) (ret := (some .int)) (by decide) rfl rfl (Nat.le_of_ble_eq_true rfl) (lv := [(0, .ref (ad 0)), (1, .int p1), (2, .int p2), (3, .int p3)]) rfl (fun C => ?_)
  rw [pX6_least]
  refine g_aload_n C 0 0 dX6_least_0 rfl ?_
  refine g_iload_n C 1 1 dX6_least_1 rfl ?_
  refine g_iload_n C 2 2 dX6_least_2 rfl ?_
  refine g_iload_n C 3 3 dX6_least_3 rfl ?_
  refine g_iconst C 4 1 dX6_least_4 rfl ?_
  refine g_callVi (st := []) (As := [.int p1, .int p2, .int p3, .int 1]) C EX_ok EX_vm 5 0 4 (tX6_firstThatWins F p1 p2 p3 1 u) rfl gX6_least_X6_firstThatWins rfl rfl rfl (by decide +kernel) ⟨Nat.le_of_ble_eq_true rfl, Nat.le_of_ble_eq_true rfl⟩ rfl rfl rfl (Nat.le_of_ble_eq_true rfl) dX6_least_5 (fun r2 u1 => ?_)
  exact g_iret C 8 dX6_least_8
def pX6_hand (F : Nat) (p1 : Int32) (p2 : Int32) (p3 : Int32) (u : St) : Option (Int32 × St) :=
  bd (pX6_firstThatWins F p1 p2 p3 2 u) (fun (r2 : Int32) (u1 : St) => some (r2, u1))
set_option maxRecDepth 100000 in
set_option maxHeartbeats 4000000 in
theorem tX6_hand {l : Launch} {D : va_G} {cI cZ : ClassId} {ad : Nat → Nat} {tBURNS tFLAME_BOUNDS : Nat} {tS : Option Nat} {adK adV : Nat → Nat} (F : Nat) (p1 : Int32) (p2 : Int32) (p3 : Int32) (u : St) : CtI l D [(cI, .int), (cZ, .boolean)] (wX ad cI cZ) (EX tBURNS tFLAME_BOUNDS tS adK adV) yX6_hand wsX6_hand ({ frames := 5, cells := 0, slots := 0, locals := 110 } : Room) [.ref (ad 0), .int p1, .int p2, .int p3] u (pX6_hand F p1 p2 p3 u) := by
  refine ctI_of (own := RX6) (cc := cX6_hand) (n := 4) (ret := (some .int)) (by decide) rfl rfl (Nat.le_of_ble_eq_true rfl) (lv := [(0, .ref (ad 0)), (1, .int p1), (2, .int p2), (3, .int p3)]) rfl (fun C => ?_)
  rw [pX6_hand]
  refine g_aload_n C 0 0 dX6_hand_0 rfl ?_
  refine g_iload_n C 1 1 dX6_hand_1 rfl ?_
  refine g_iload_n C 2 2 dX6_hand_2 rfl ?_
  refine g_iload_n C 3 3 dX6_hand_3 rfl ?_
  refine g_iconst C 4 2 dX6_hand_4 rfl ?_
  refine g_callVi (st := []) (As := [.int p1, .int p2, .int p3, .int 2]) C EX_ok EX_vm 5 0 4 (tX6_firstThatWins F p1 p2 p3 2 u) rfl gX6_hand_X6_firstThatWins rfl rfl rfl (by decide +kernel) ⟨Nat.le_of_ble_eq_true rfl, Nat.le_of_ble_eq_true rfl⟩ rfl rfl rfl (Nat.le_of_ble_eq_true rfl) dX6_hand_5 (fun r2 u1 => ?_)
  exact g_iret C 8 dX6_hand_8
def bX6_turn_47 (F : Nat) (p1 : Int32) (p2 : Int32) (p3 : Int32) (r8 : Int32) (self11 : Int32 → St → Option (Int32 × St)) (x9 : Int32) (u10 : St) : Option (Int32 × St) :=
  if 20 < x9 then some ((-4), u10) else bd (pX6_prepare F p1 p2 0 u10) (fun (_ : Unit) (u12 : St) => bd (pX5_blows F x9 p3 u12) (fun (_ : Unit) (u13 : St) => bd (pX5_verdictHeld F u13) (fun (r15 : Int32) (u14 : St) => if r15 = r8 then (self11 (x9 + 1) u14) else some (x9, u14))))
def pX6_turn (F : Nat) (p1 : Int32) (p2 : Int32) (p3 : Int32) (u : St) : Option (Int32 × St) :=
  bd (pX0_hasCase F 0 (Int32.toInt64 p1) u) (fun (r2 : Int32) (u1 : St) => if r2 = 0 then some ((-1), u1) else bd (pX0_hasJudge F 0 p2 u1) (fun (r4 : Int32) (u3 : St) => if r4 = 0 then some ((-1), u3) else bd (pX6_isIn F (Int32.toInt64 p3) 1 9 u3) (fun (r6 : Int32) (u5 : St) => if r6 = 0 then some ((-1), u5) else bd (pX6_verdictNow F p1 p2 u5) (fun (r8 : Int32) (u7 : St) => (lq1 (bX6_turn_47 F p1 p2 p3 r8) F 0 u7)))))
set_option maxRecDepth 100000 in
set_option maxHeartbeats 4000000 in
theorem tX6_turn {l : Launch} {D : va_G} {cI cZ : ClassId} {ad : Nat → Nat} {tBURNS tFLAME_BOUNDS : Nat} {tS : Option Nat} {adK adV : Nat → Nat} (F : Nat) (p1 : Int32) (p2 : Int32) (p3 : Int32) (u : St) : CtI l D [(cI, .int), (cZ, .boolean)] (wX ad cI cZ) (EX tBURNS tFLAME_BOUNDS tS adK adV) yX6_turn wsX6_turn ({ frames := 5, cells := 0, slots := 0, locals := 107 } : Room) [.ref (ad 0), .int p1, .int p2, .int p3] u (pX6_turn F p1 p2 p3 u) := by
  refine ctI_of (own := RX6) (cc := cX6_turn) (n := 6) (ret := (some .int)) (by decide) rfl rfl (Nat.le_of_ble_eq_true rfl) (lv := [(0, .ref (ad 0)), (1, .int p1), (2, .int p2), (3, .int p3)]) rfl (fun C => ?_)
  have iX6 : ∀ w ∈ wsX60, w ∈ wsX6_turn := fun w h => List.mem_cons_of_mem _ (List.mem_append_right _ (inlX6 w h))
  rw [pX6_turn]
  refine g_aload_n C 0 0 dX6_turn_0 rfl ?_
  refine gfX_X6_court C 1 iX6 (List.mem_cons_of_mem _ (List.mem_append_right _ wgL_1_15.1)) dX6_turn_1 ?_
  refine g_iload_n C 4 1 dX6_turn_4 rfl ?_
  refine g_i2l C 5 dX6_turn_5 ?_
  refine g_callVi (st := []) (As := [.long (Int32.toInt64 p1)]) C EX_ok EX_vm 6 1 1 (tX0_hasCase F 0 (by decide) (Int32.toInt64 p1) u) rfl gX6_turn_X0_hasCase rfl rfl rfl (by decide +kernel) ⟨Nat.le_of_ble_eq_true rfl, Nat.le_of_ble_eq_true rfl⟩ (wX_X0 ad cI cZ _ 0 (by decide)) rfl rfl (Nat.le_of_ble_eq_true rfl) dX6_turn_6 (fun r2 u1 => ?_)
  refine g_if_eq C 9 34 dX6_turn_9 (by decide) ?_ ?_
  · skip
    refine g_iconst C 34 (-1) dX6_turn_34 rfl ?_
    exact g_iret C 35 dX6_turn_35
  · skip
    refine g_aload_n C 12 0 dX6_turn_12 rfl ?_
    refine gfX_X6_court C 13 iX6 (List.mem_cons_of_mem _ (List.mem_append_right _ wgL_1_15.1)) dX6_turn_13 ?_
    refine g_iload_n C 16 2 dX6_turn_16 rfl ?_
    refine g_callVi (st := []) (As := [.int p2]) C EX_ok EX_vm 17 1 1 (tX0_hasJudge F 0 (by decide) p2 u1) rfl gX6_turn_X0_hasJudge rfl rfl rfl (by decide +kernel) ⟨Nat.le_of_ble_eq_true rfl, Nat.le_of_ble_eq_true rfl⟩ (wX_X0 ad cI cZ _ 0 (by decide)) rfl rfl (Nat.le_of_ble_eq_true rfl) dX6_turn_17 (fun r4 u3 => ?_)
    refine g_if_eq C 20 34 dX6_turn_20 (by decide) ?_ ?_
    · skip
      refine g_iconst C 34 (-1) dX6_turn_34 rfl ?_
      exact g_iret C 35 dX6_turn_35
    · skip
      refine g_iload_n C 23 3 dX6_turn_23 rfl ?_
      refine g_i2l C 24 dX6_turn_24 ?_
      refine g_iconst C 25 1 dX6_turn_25 rfl ?_
      refine g_bipush C 26 9 dX6_turn_26 rfl ?_
      refine g_callSi (st := []) (As := [.long (Int32.toInt64 p3), .int 1, .int 9]) C EX_ok EX_vm 28 3 (tX6_isIn F (Int32.toInt64 p3) 1 9 u3) rfl gX6_turn_X6_isIn rfl rfl rfl (by decide +kernel) ⟨Nat.le_of_ble_eq_true rfl, Nat.le_of_ble_eq_true rfl⟩ rfl (Nat.le_of_ble_eq_true rfl) dX6_turn_28 (fun r6 u5 => ?_)
      refine g_if_ne C 31 36 dX6_turn_31 (by decide) ?_ ?_
      · skip
        refine g_aload_n C 36 0 dX6_turn_36 rfl ?_
        refine g_iload_n C 37 1 dX6_turn_37 rfl ?_
        refine g_iload_n C 38 2 dX6_turn_38 rfl ?_
        refine g_callVi (st := []) (As := [.int p1, .int p2]) C EX_ok EX_vm 39 0 2 (tX6_verdictNow F p1 p2 u5) rfl gX6_turn_X6_verdictNow rfl rfl rfl (by decide +kernel) ⟨Nat.le_of_ble_eq_true rfl, Nat.le_of_ble_eq_true rfl⟩ rfl rfl rfl (Nat.le_of_ble_eq_true rfl) dX6_turn_39 (fun r8 u7 => ?_)
        refine g_istore C 42 [(4, .int r8), (0, .ref (ad 0)), (1, .int p1), (2, .int p2), (3, .int p3)] dX6_turn_42 (by decide) rfl ?_
        refine g_iconst C 44 0 dX6_turn_44 rfl ?_
        refine g_istore C 45 [(5, .int 0), (4, .int r8), (0, .ref (ad 0)), (1, .int p1), (2, .int p2), (3, .int p3)] dX6_turn_45 (by decide) rfl ?_
        refine g_sub _ [2, 3, 4, 5, 1, 0] rfl ?_
        refine g_lq1 (fun (x9 : Int32) => [(0, .ref (ad 0)), (1, .int p1), (2, .int p2), (3, .int p3), (4, .int r8), (5, .int x9)]) (fun self11 hself11 x9 u10 => ?_) F 0 u7
        rw [bX6_turn_47]
        refine g_iload C 47 5 dX6_turn_47 rfl ?_
        refine g_bipush C 49 20 dX6_turn_49 rfl ?_
        refine g_icmp_gt C 51 92 dX6_turn_51 (by decide) ?_ ?_
        · skip
          refine g_bipush C 92 (-4) dX6_turn_92 rfl ?_
          exact g_iret C 94 dX6_turn_94
        · skip
          refine g_aload_n C 54 0 dX6_turn_54 rfl ?_
          refine g_iload_n C 55 1 dX6_turn_55 rfl ?_
          refine g_iload_n C 56 2 dX6_turn_56 rfl ?_
          refine g_iconst C 57 0 dX6_turn_57 rfl ?_
          refine g_callVv (st := []) (As := [.int p1, .int p2, .int 0]) C EX_ok EX_vm 58 0 3 (tX6_prepare F p1 p2 0 u10) rfl gX6_turn_X6_prepare rfl rfl rfl (by decide +kernel) ⟨Nat.le_of_ble_eq_true rfl, Nat.le_of_ble_eq_true rfl⟩ rfl rfl rfl (Nat.le_of_ble_eq_true rfl) dX6_turn_58 (fun u12 => ?_)
          refine g_aload_n C 61 0 dX6_turn_61 rfl ?_
          refine gfX_X6_trial C 62 iX6 (List.mem_cons_of_mem _ (List.mem_append_right _ wgL_2_3.1)) dX6_turn_62 ?_
          refine g_iload C 65 5 dX6_turn_65 rfl ?_
          refine g_iload_n C 67 3 dX6_turn_67 rfl ?_
          refine g_callVv (st := []) (As := [.int x9, .int p3]) C EX_ok EX_vm 68 6 2 (tX5_blows F x9 p3 u12) rfl gX6_turn_X5_blows rfl rfl rfl (by decide +kernel) ⟨Nat.le_of_ble_eq_true rfl, Nat.le_of_ble_eq_true rfl⟩ rfl rfl rfl (Nat.le_of_ble_eq_true rfl) dX6_turn_68 (fun u13 => ?_)
          refine g_aload_n C 71 0 dX6_turn_71 rfl ?_
          refine gfX_X6_trial C 72 iX6 (List.mem_cons_of_mem _ (List.mem_append_right _ wgL_2_3.1)) dX6_turn_72 ?_
          refine g_callVi (st := []) (As := []) C EX_ok EX_vm 75 6 0 (tX5_verdictHeld F u13) rfl gX6_turn_X5_verdictHeld rfl rfl rfl (by decide +kernel) ⟨Nat.le_of_ble_eq_true rfl, Nat.le_of_ble_eq_true rfl⟩ rfl rfl rfl (Nat.le_of_ble_eq_true rfl) dX6_turn_75 (fun r15 u14 => ?_)
          refine g_iload C 78 4 dX6_turn_78 rfl ?_
          refine g_icmp_eq C 80 86 dX6_turn_80 (by decide) ?_ ?_
          · skip
            refine g_iinc C 86 5 [(5, .int (x9 + 1)), (0, .ref (ad 0)), (1, .int p1), (2, .int p2), (3, .int p3), (4, .int r8)] dX6_turn_86 rfl rfl (by decide) rfl ?_
            refine g_goto C 89 47 dX6_turn_89 (by decide) ?_
            exact g_sub _ [1, 2, 3, 4, 5, 0] rfl (hself11 (x9 + 1) u14)
          · skip
            refine g_iload C 83 5 dX6_turn_83 rfl ?_
            exact g_iret C 85 dX6_turn_85
      · skip
        refine g_iconst C 34 (-1) dX6_turn_34 rfl ?_
        exact g_iret C 35 dX6_turn_35
def bX6_fillVerdictsByGuards_2 (F : Nat) (p1 : Int32) (p2 : Int32) (self3 : Int32 → St → Option (Unit × St)) (x1 : Int32) (u2 : St) : Option (Unit × St) :=
  if 100 ≤ x1 then some ((), u2) else bd (pX6_prepare F p1 p2 0 u2) (fun (_ : Unit) (u4 : St) => gd (nz 10) (bd (pX5_change F 0 2 (x1 / 10) u4) (fun (_ : Unit) (u5 : St) => gd (nz 10) (bd (pX5_change F 1 2 (irm x1 10) u5) (fun (_ : Unit) (u6 : St) => bd (pX5_verdictHeld F u6) (fun (r8 : Int32) (u7 : St) => gd (inb x1 100) (vl (sta u7 52 x1 r8) (fun (u9 : St) => (self3 (x1 + 1) u9)))))))))
def pX6_fillVerdictsByGuards (F : Nat) (p1 : Int32) (p2 : Int32) (u : St) : Option (Unit × St) :=
  (lq1 (bX6_fillVerdictsByGuards_2 F p1 p2) F 0 u)
set_option maxRecDepth 100000 in
set_option maxHeartbeats 4000000 in
theorem tX6_fillVerdictsByGuards {l : Launch} {D : va_G} {cI cZ : ClassId} {ad : Nat → Nat} {tBURNS tFLAME_BOUNDS : Nat} {tS : Option Nat} {adK adV : Nat → Nat} (F : Nat) (p1 : Int32) (p2 : Int32) (u : St) : CtV l D [(cI, .int), (cZ, .boolean)] (wX ad cI cZ) (EX tBURNS tFLAME_BOUNDS tS adK adV) yX6_fillVerdictsByGuards wsX6_fillVerdictsByGuards ({ frames := 4, cells := 0, slots := 0, locals := 85 } : Room) [.ref (ad 0), .int p1, .int p2] u (pX6_fillVerdictsByGuards F p1 p2 u) := by
  refine ctV_of (own := RX6) (cc := cX6_fillVerdictsByGuards) (n := 4) (ret := none) (by decide) rfl rfl (Nat.le_of_ble_eq_true rfl) (lv := [(0, .ref (ad 0)), (1, .int p1), (2, .int p2)]) rfl (fun C => ?_)
  have iX6 : ∀ w ∈ wsX60, w ∈ wsX6_fillVerdictsByGuards := fun w h => List.mem_cons_of_mem _ (List.mem_append_right _ (inlX6 w h))
  rw [pX6_fillVerdictsByGuards]
  refine g_iconst C 0 0 dX6_fillVerdictsByGuards_0 rfl ?_
  refine g_istore_n C 1 [(3, .int 0), (0, .ref (ad 0)), (1, .int p1), (2, .int p2)] dX6_fillVerdictsByGuards_1 (by decide) rfl ?_
  refine g_sub _ [1, 2, 3, 0] rfl ?_
  refine g_lq1 (fun (x1 : Int32) => [(0, .ref (ad 0)), (1, .int p1), (2, .int p2), (3, .int x1)]) (fun self3 hself3 x1 u2 => ?_) F 0 u
  rw [bX6_fillVerdictsByGuards_2]
  refine g_iload_n C 2 3 dX6_fillVerdictsByGuards_2 rfl ?_
  refine g_bipush C 3 100 dX6_fillVerdictsByGuards_3 rfl ?_
  refine g_icmp_ge C 5 60 dX6_fillVerdictsByGuards_5 (by decide) ?_ ?_
  · skip
    exact g_vret C 60 dX6_fillVerdictsByGuards_60
  · skip
    refine g_aload_n C 8 0 dX6_fillVerdictsByGuards_8 rfl ?_
    refine g_iload_n C 9 1 dX6_fillVerdictsByGuards_9 rfl ?_
    refine g_iload_n C 10 2 dX6_fillVerdictsByGuards_10 rfl ?_
    refine g_iconst C 11 0 dX6_fillVerdictsByGuards_11 rfl ?_
    refine g_callVv (st := []) (As := [.int p1, .int p2, .int 0]) C EX_ok EX_vm 12 0 3 (tX6_prepare F p1 p2 0 u2) rfl gX6_fillVerdictsByGuards_X6_prepare rfl rfl rfl (by decide +kernel) ⟨Nat.le_of_ble_eq_true rfl, Nat.le_of_ble_eq_true rfl⟩ rfl rfl rfl (Nat.le_of_ble_eq_true rfl) dX6_fillVerdictsByGuards_12 (fun u4 => ?_)
    refine g_aload_n C 15 0 dX6_fillVerdictsByGuards_15 rfl ?_
    refine gfX_X6_trial C 16 iX6 (List.mem_cons_of_mem _ (List.mem_append_right _ wgL_2_3.1)) dX6_fillVerdictsByGuards_16 ?_
    refine g_iconst C 19 0 dX6_fillVerdictsByGuards_19 rfl ?_
    refine g_iconst C 20 2 dX6_fillVerdictsByGuards_20 rfl ?_
    refine g_iload_n C 21 3 dX6_fillVerdictsByGuards_21 rfl ?_
    refine g_bipush C 22 10 dX6_fillVerdictsByGuards_22 rfl ?_
    refine g_idiv C 24 dX6_fillVerdictsByGuards_24 ?_
    refine g_callVv (st := []) (As := [.int 0, .int 2, .int (x1 / 10)]) C EX_ok EX_vm 25 6 3 (tX5_change F 0 2 (x1 / 10) u4) rfl gX6_fillVerdictsByGuards_X5_change rfl rfl rfl (by decide +kernel) ⟨Nat.le_of_ble_eq_true rfl, Nat.le_of_ble_eq_true rfl⟩ rfl rfl rfl (Nat.le_of_ble_eq_true rfl) dX6_fillVerdictsByGuards_25 (fun u5 => ?_)
    refine g_aload_n C 28 0 dX6_fillVerdictsByGuards_28 rfl ?_
    refine gfX_X6_trial C 29 iX6 (List.mem_cons_of_mem _ (List.mem_append_right _ wgL_2_3.1)) dX6_fillVerdictsByGuards_29 ?_
    refine g_iconst C 32 1 dX6_fillVerdictsByGuards_32 rfl ?_
    refine g_iconst C 33 2 dX6_fillVerdictsByGuards_33 rfl ?_
    refine g_iload_n C 34 3 dX6_fillVerdictsByGuards_34 rfl ?_
    refine g_bipush C 35 10 dX6_fillVerdictsByGuards_35 rfl ?_
    refine g_irem C 37 dX6_fillVerdictsByGuards_37 ?_
    refine g_callVv (st := []) (As := [.int 1, .int 2, .int (irm x1 10)]) C EX_ok EX_vm 38 6 3 (tX5_change F 1 2 (irm x1 10) u5) rfl gX6_fillVerdictsByGuards_X5_change rfl rfl rfl (by decide +kernel) ⟨Nat.le_of_ble_eq_true rfl, Nat.le_of_ble_eq_true rfl⟩ rfl rfl rfl (Nat.le_of_ble_eq_true rfl) dX6_fillVerdictsByGuards_38 (fun u6 => ?_)
    refine g_aload_n C 41 0 dX6_fillVerdictsByGuards_41 rfl ?_
    refine gfX_X6_verdictsByGuards C 42 iX6 (List.mem_cons_of_mem _ (List.mem_append_right _ wgL_2_17.1)) dX6_fillVerdictsByGuards_42 ?_
    refine g_iload_n C 45 3 dX6_fillVerdictsByGuards_45 rfl ?_
    refine g_aload_n C 46 0 dX6_fillVerdictsByGuards_46 rfl ?_
    refine gfX_X6_trial C 47 iX6 (List.mem_cons_of_mem _ (List.mem_append_right _ wgL_2_3.1)) dX6_fillVerdictsByGuards_47 ?_
    refine g_callVi (st := [.int x1, .ref (ad (10 + 52))]) (As := []) C EX_ok EX_vm 50 6 0 (tX5_verdictHeld F u6) rfl gX6_fillVerdictsByGuards_X5_verdictHeld rfl rfl rfl (by decide +kernel) ⟨Nat.le_of_ble_eq_true rfl, Nat.le_of_ble_eq_true rfl⟩ rfl rfl rfl (Nat.le_of_ble_eq_true rfl) dX6_fillVerdictsByGuards_50 (fun r8 u7 => ?_)
    refine g_iast C 53 (10 + 52) 0 52 (wX_arr 52 (by decide)) (wX_aset 52 (by decide)) rfl dX6_fillVerdictsByGuards_53 (fun u9 => ?_)
    refine g_iinc C 54 3 [(3, .int (x1 + 1)), (0, .ref (ad 0)), (1, .int p1), (2, .int p2)] dX6_fillVerdictsByGuards_54 rfl rfl (by decide) rfl ?_
    refine g_goto C 57 2 dX6_fillVerdictsByGuards_57 (by decide) ?_
    exact g_sub _ [1, 2, 3, 0] rfl (hself3 (x1 + 1) u9)
