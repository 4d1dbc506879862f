section
def jX5_verdictHeld_99 (F : Nat)   (u2 : St) : Option (Int32 × St) :=
  bd (pX5_burnsStill F 0 u2) (fun (r4 : Int32) (u3 : St) => bd (pX5_burnsStill F 1 u3) (fun (r6 : Int32) (u5 : St) => jn (fun (u7 : St) => if r4 = 0 then if r6 = 0 then some (3, u7) else some (2, u7) else some (1, u7)) (fun (J132 : St → Option (Int32 × St)) => if r4 = 0 then (J132 u5) else if r6 = 0 then (J132 u5) else bd (pX5_goesTo F u5) (fun (r9 : Int32) (u8 : St) => if r9 = 0 then some (2, u8) else some (1, u8)))))
def bX5_verdictHeld_5 (F : Nat) (J99 : St → Option (Int32 × St)) (self11 : St → Option (Int32 × St))  (u10 : St) : Option (Int32 × St) :=
  if (u10.1 25) ≤ (u10.1 26) then (J99 u10) else bd (pX5_burnsStill F 0 u10) (fun (r13 : Int32) (u12 : St) => if r13 = 0 then (J99 u12) else bd (pX5_burnsStill F 1 u12) (fun (r15 : Int32) (u14 : St) => if r15 = 0 then (J99 u14) else gd (inb 0 2) (gd (inb 0 2) (gd (inb (u14.2 55 (Int32.toNatClampNeg 0)) 4) (gd (inb 0 2) (vl (sta u14 56 0 (if 0 < ((u14.2 56 (Int32.toNatClampNeg 0)) - (tabBURNS (Int32.toNatClampNeg (u14.2 55 (Int32.toNatClampNeg 0))))) then ((u14.2 56 (Int32.toNatClampNeg 0)) - (tabBURNS (Int32.toNatClampNeg (u14.2 55 (Int32.toNatClampNeg 0))))) else 0)) (fun (u16 : St) => gd (inb 1 2) (gd (inb 1 2) (gd (inb (u16.2 55 (Int32.toNatClampNeg 1)) 4) (gd (inb 1 2) (vl (sta u16 56 1 (if 0 < ((u16.2 56 (Int32.toNatClampNeg 1)) - (tabBURNS (Int32.toNatClampNeg (u16.2 55 (Int32.toNatClampNeg 1))))) then ((u16.2 56 (Int32.toNatClampNeg 1)) - (tabBURNS (Int32.toNatClampNeg (u16.2 55 (Int32.toNatClampNeg 1))))) else 0)) (fun (u17 : St) => vl (stf u17 26 ((u17.1 26) + 1)) (fun (u18 : St) => (self11 u18))))))))))))))
def pX5_verdictHeld (F : Nat)  (u : St) : Option (Int32 × St) :=
  vl (stf u 26 0) (fun (u1 : St) => jn (jX5_verdictHeld_99 F) (fun (J99 : St → Option (Int32 × St)) => (lp0 (bX5_verdictHeld_5 F J99) F u1)))
set_option maxRecDepth 100000 in
set_option maxHeartbeats 4000000 in
theorem tX5_verdictHeld {l : Launch} {D : va_G} {cI cZ : ClassId} {ad : Nat → Nat} {tBURNS tFLAME_BOUNDS : Nat} {tS : Option Nat} {adK adV : Nat → Nat} (F : Nat)  (u : St) : CtI l D [(cI, .int), (cZ, .boolean)] (wX ad cI cZ) (EX tBURNS tFLAME_BOUNDS tS adK adV) yX5_verdictHeld wsX5_verdictHeld ({ frames := 1, cells := 0, slots := 0, locals := 21 } : Room) [.ref (ad 6)] u (pX5_verdictHeld F u) := by
  refine ctI_of (own := RX5) (cc := cX5_verdictHeld) (n := 3) (ret := (some .int)) (by decide) rfl rfl (Nat.le_of_ble_eq_true rfl) (lv := [(0, .ref (ad 6))]) rfl (fun C => ?_)
  have iX5 : ∀ w ∈ wsX50, w ∈ wsX5_verdictHeld := fun w h => List.mem_cons_of_mem _ (List.mem_append_right _ (inlX5 w h))
  rw [pX5_verdictHeld]
  refine g_aload_n C 0 0 dX5_verdictHeld_0 rfl ?_
  refine g_iconst C 1 0 dX5_verdictHeld_1 rfl ?_
  refine pfX_X5_minute C 2 iX5 (List.mem_cons_of_mem _ (List.mem_append_right _ wgL_4_14.1)) dX5_verdictHeld_2 (fun u1 => ?_)
  refine g_jn0 99 ([(0, .ref (ad 6))]) ([]) (fun u2 => ?_) (fun J99 hJ99 => ?_)
  · skip
    rw [jX5_verdictHeld_99]
    refine g_aload_n C 99 0 dX5_verdictHeld_99 rfl ?_
    refine g_iconst C 100 0 dX5_verdictHeld_100 rfl ?_
    refine g_callVi (st := []) (As := [.int 0]) C EX_ok EX_vm 101 6 1 (tX5_burnsStill F 0 u2) rfl gX5_verdictHeld_X5_burnsStill rfl rfl rfl (by decide +kernel) ⟨Nat.le_of_ble_eq_true rfl, Nat.le_of_ble_eq_true rfl⟩ rfl rfl rfl (Nat.le_of_ble_eq_true rfl) dX5_verdictHeld_101 (fun r4 u3 => ?_)
    refine g_istore_n C 104 [(1, .int r4), (0, .ref (ad 6))] dX5_verdictHeld_104 (by decide) rfl ?_
    refine g_aload_n C 105 1 dX5_verdictHeld_105 rfl ?_
    refine g_iconst C 106 1 dX5_verdictHeld_106 rfl ?_
    refine g_callVi (st := []) (As := [.int 1]) C EX_ok EX_vm 107 6 1 (tX5_burnsStill F 1 u3) rfl gX5_verdictHeld_X5_burnsStill rfl rfl rfl (by decide +kernel) ⟨Nat.le_of_ble_eq_true rfl, Nat.le_of_ble_eq_true rfl⟩ rfl rfl rfl (Nat.le_of_ble_eq_true rfl) dX5_verdictHeld_107 (fun r6 u5 => ?_)
    refine g_istore_n C 110 [(2, .int r6), (1, .int r4), (0, .ref (ad 6))] dX5_verdictHeld_110 (by decide) rfl ?_
    refine g_iload_n C 111 1 dX5_verdictHeld_111 rfl ?_
    refine g_jn0 132 ([(1, .int r4), (2, .int r6)]) ([]) (fun u7 => ?_) (fun J132 hJ132 => ?_)
    · skip
      refine g_iload_n C 132 0 dX5_verdictHeld_132 rfl ?_
      refine g_if_eq C 133 138 dX5_verdictHeld_133 (by decide) ?_ ?_
      · skip
        refine g_iload_n C 138 1 dX5_verdictHeld_138 rfl ?_
        refine g_if_eq C 139 146 dX5_verdictHeld_139 (by decide) ?_ ?_
        · skip
          refine g_iconst C 146 3 dX5_verdictHeld_146 rfl ?_
          exact g_iret C 147 dX5_verdictHeld_147
        · skip
          refine g_iconst C 142 2 dX5_verdictHeld_142 rfl ?_
          refine g_goto C 143 147 dX5_verdictHeld_143 (by decide) ?_
          exact g_iret C 147 dX5_verdictHeld_147
      · skip
        refine g_iconst C 136 1 dX5_verdictHeld_136 rfl ?_
        exact g_iret C 137 dX5_verdictHeld_137
    · skip
      refine g_if_eq C 112 132 dX5_verdictHeld_112 (by decide) ?_ ?_
      · skip
        exact g_sub _ [1, 0] rfl (hJ132 u5)
      · skip
        refine g_iload_n C 115 0 dX5_verdictHeld_115 rfl ?_
        refine g_if_eq C 116 132 dX5_verdictHeld_116 (by decide) ?_ ?_
        · skip
          exact g_sub _ [1, 0] rfl (hJ132 u5)
        · skip
          refine g_aload_n C 119 2 dX5_verdictHeld_119 rfl ?_
          refine g_callVi (st := []) (As := []) C EX_ok EX_vm 120 6 0 (tX5_goesTo F u5) rfl gX5_verdictHeld_X5_goesTo rfl rfl rfl (by decide +kernel) ⟨Nat.le_of_ble_eq_true rfl, Nat.le_of_ble_eq_true rfl⟩ rfl rfl rfl (Nat.le_of_ble_eq_true rfl) dX5_verdictHeld_120 (fun r9 u8 => ?_)
          refine g_if_ne C 123 130 dX5_verdictHeld_123 (by decide) ?_ ?_
          · skip
            refine g_iconst C 130 1 dX5_verdictHeld_130 rfl ?_
            exact g_iret C 131 dX5_verdictHeld_131
          · skip
            refine g_iconst C 126 2 dX5_verdictHeld_126 rfl ?_
            refine g_goto C 127 131 dX5_verdictHeld_127 (by decide) ?_
            exact g_iret C 131 dX5_verdictHeld_131
  · skip
    refine g_sub _ [0] rfl ?_
    refine g_lp0 (fun self11 hself11 u10 => ?_) F u1
    rw [bX5_verdictHeld_5]
    refine g_aload_n C 5 0 dX5_verdictHeld_5 rfl ?_
    refine gfX_X5_minute C 6 iX5 (List.mem_cons_of_mem _ (List.mem_append_right _ wgL_4_14.1)) dX5_verdictHeld_6 ?_
    refine g_aload_n C 9 0 dX5_verdictHeld_9 rfl ?_
    refine gfX_X5_slow C 10 iX5 (List.mem_cons_of_mem _ (List.mem_append_right _ wgL_4_13.1)) dX5_verdictHeld_10 ?_
    refine g_icmp_ge C 13 99 dX5_verdictHeld_13 (by decide) ?_ ?_
    · skip
      exact g_sub _ [0] rfl (hJ99 u10)
    · skip
      refine g_aload_n C 16 0 dX5_verdictHeld_16 rfl ?_
      refine g_iconst C 17 0 dX5_verdictHeld_17 rfl ?_
      refine g_callVi (st := []) (As := [.int 0]) C EX_ok EX_vm 18 6 1 (tX5_burnsStill F 0 u10) rfl gX5_verdictHeld_X5_burnsStill rfl rfl rfl (by decide +kernel) ⟨Nat.le_of_ble_eq_true rfl, Nat.le_of_ble_eq_true rfl⟩ rfl rfl rfl (Nat.le_of_ble_eq_true rfl) dX5_verdictHeld_18 (fun r13 u12 => ?_)
      refine g_if_eq C 21 99 dX5_verdictHeld_21 (by decide) ?_ ?_
      · skip
        exact g_sub _ [0] rfl (hJ99 u12)
      · skip
        refine g_aload_n C 24 0 dX5_verdictHeld_24 rfl ?_
        refine g_iconst C 25 1 dX5_verdictHeld_25 rfl ?_
        refine g_callVi (st := []) (As := [.int 1]) C EX_ok EX_vm 26 6 1 (tX5_burnsStill F 1 u12) rfl gX5_verdictHeld_X5_burnsStill rfl rfl rfl (by decide +kernel) ⟨Nat.le_of_ble_eq_true rfl, Nat.le_of_ble_eq_true rfl⟩ rfl rfl rfl (Nat.le_of_ble_eq_true rfl) dX5_verdictHeld_26 (fun r15 u14 => ?_)
        refine g_if_eq C 29 99 dX5_verdictHeld_29 (by decide) ?_ ?_
        · skip
          exact g_sub _ [0] rfl (hJ99 u14)
        · skip
          refine g_aload_n C 32 0 dX5_verdictHeld_32 rfl ?_
          refine gfX_X5_length C 33 iX5 (List.mem_cons_of_mem _ (List.mem_append_right _ wgL_4_9.1)) dX5_verdictHeld_33 ?_
          refine g_iconst C 36 0 dX5_verdictHeld_36 rfl ?_
          refine g_iconst C 37 0 dX5_verdictHeld_37 rfl ?_
          refine g_aload_n C 38 0 dX5_verdictHeld_38 rfl ?_
          refine gfX_X5_length C 39 iX5 (List.mem_cons_of_mem _ (List.mem_append_right _ wgL_4_9.1)) dX5_verdictHeld_39 ?_
          refine g_iconst C 42 0 dX5_verdictHeld_42 rfl ?_
          refine g_iald C 43 (10 + 56) 0 (wX_arr 56 (by decide)) rfl dX5_verdictHeld_43 ?_
          refine g_getsN C 44 (EX_zBURNS C.2.2.2.2.2.2.2.2.1) (EX_n12 C.2.2.2.2.2.2.2.2.1) dX5_verdictHeld_44 ?_
          refine g_aload_n C 47 0 dX5_verdictHeld_47 rfl ?_
          refine gfX_X5_kind C 48 iX5 (List.mem_cons_of_mem _ (List.mem_append_right _ wgL_4_8.1)) dX5_verdictHeld_48 ?_
          refine g_iconst C 51 0 dX5_verdictHeld_51 rfl ?_
          refine g_iald C 52 (10 + 55) 0 (wX_arr 55 (by decide)) rfl dX5_verdictHeld_52 ?_
          refine g_ti C 53 (EX_tBURNS C.2.2.2.2.2.2.2.2.1) dX5_verdictHeld_53 ?_
          refine g_isub C 54 dX5_verdictHeld_54 ?_
          refine g_mmax C 55 (by decide +kernel) (by decide +kernel) (by decide +kernel) (by decide +kernel) ⟨Nat.le_of_ble_eq_true rfl, Nat.le_of_ble_eq_true rfl⟩ dX5_verdictHeld_55 ?_
          refine g_iast C 58 (10 + 56) 0 56 (wX_arr 56 (by decide)) (wX_aset 56 (by decide)) rfl dX5_verdictHeld_58 (fun u16 => ?_)
          refine g_aload_n C 59 0 dX5_verdictHeld_59 rfl ?_
          refine gfX_X5_length C 60 iX5 (List.mem_cons_of_mem _ (List.mem_append_right _ wgL_4_9.1)) dX5_verdictHeld_60 ?_
          refine g_iconst C 63 1 dX5_verdictHeld_63 rfl ?_
          refine g_iconst C 64 0 dX5_verdictHeld_64 rfl ?_
          refine g_aload_n C 65 0 dX5_verdictHeld_65 rfl ?_
          refine gfX_X5_length C 66 iX5 (List.mem_cons_of_mem _ (List.mem_append_right _ wgL_4_9.1)) dX5_verdictHeld_66 ?_
          refine g_iconst C 69 1 dX5_verdictHeld_69 rfl ?_
          refine g_iald C 70 (10 + 56) 0 (wX_arr 56 (by decide)) rfl dX5_verdictHeld_70 ?_
          refine g_getsN C 71 (EX_zBURNS C.2.2.2.2.2.2.2.2.1) (EX_n12 C.2.2.2.2.2.2.2.2.1) dX5_verdictHeld_71 ?_
          refine g_aload_n C 74 0 dX5_verdictHeld_74 rfl ?_
          refine gfX_X5_kind C 75 iX5 (List.mem_cons_of_mem _ (List.mem_append_right _ wgL_4_8.1)) dX5_verdictHeld_75 ?_
          refine g_iconst C 78 1 dX5_verdictHeld_78 rfl ?_
          refine g_iald C 79 (10 + 55) 0 (wX_arr 55 (by decide)) rfl dX5_verdictHeld_79 ?_
          refine g_ti C 80 (EX_tBURNS C.2.2.2.2.2.2.2.2.1) dX5_verdictHeld_80 ?_
          refine g_isub C 81 dX5_verdictHeld_81 ?_
          refine g_mmax C 82 (by decide +kernel) (by decide +kernel) (by decide +kernel) (by decide +kernel) ⟨Nat.le_of_ble_eq_true rfl, Nat.le_of_ble_eq_true rfl⟩ dX5_verdictHeld_82 ?_
          refine g_iast C 85 (10 + 56) 0 56 (wX_arr 56 (by decide)) (wX_aset 56 (by decide)) rfl dX5_verdictHeld_85 (fun u17 => ?_)
          refine g_aload_n C 86 0 dX5_verdictHeld_86 rfl ?_
          refine g_dup C 87 dX5_verdictHeld_87 rfl ?_
          refine gfX_X5_minute C 88 iX5 (List.mem_cons_of_mem _ (List.mem_append_right _ wgL_4_14.1)) dX5_verdictHeld_88 ?_
          refine g_iconst C 91 1 dX5_verdictHeld_91 rfl ?_
          refine g_iadd C 92 dX5_verdictHeld_92 ?_
          refine pfX_X5_minute C 93 iX5 (List.mem_cons_of_mem _ (List.mem_append_right _ wgL_4_14.1)) dX5_verdictHeld_93 (fun u18 => ?_)
          refine g_goto C 96 5 dX5_verdictHeld_96 (by decide) ?_
          exact g_sub _ [0] rfl (hself11 u18)
def pX6_verdictNow (F : Nat) (p1 : Int32) (p2 : Int32) (u : St) : Option (Int32 × St) :=
  bd (pX6_prepare F p1 p2 0 u) (fun (_ : Unit) (u1 : St) => bd (pX5_verdictHeld F u1) (fun (r3 : Int32) (u2 : St) => some (r3, u2)))
set_option maxRecDepth 100000 in
set_option maxHeartbeats 4000000 in
theorem tX6_verdictNow {l : Launch} {D : va_G} {cI cZ : ClassId} {ad : Nat → Nat} {tBURNS tFLAME_BOUNDS : Nat} {tS : Option Nat} {adK adV : Nat → Nat} (F : Nat) (p1 : Int32) (p2 : Int32) (u : St) : CtI l D [(cI, .int), (cZ, .boolean)] (wX ad cI cZ) (EX tBURNS tFLAME_BOUNDS tS adK adV) yX6_verdictNow wsX6_verdictNow ({ frames := 4, cells := 0, slots := 0, locals := 85 } : Room) [.ref (ad 0), .int p1, .int p2] u (pX6_verdictNow F p1 p2 u) := by
  refine ctI_of (own := RX6) (cc := cX6_verdictNow) (n := 3) (ret := (some .int)) (by decide) rfl rfl (Nat.le_of_ble_eq_true rfl) (lv := [(0, .ref (ad 0)), (1, .int p1), (2, .int p2)]) rfl (fun C => ?_)
  have iX6 : ∀ w ∈ wsX60, w ∈ wsX6_verdictNow := fun w h => List.mem_cons_of_mem _ (List.mem_append_right _ (inlX6 w h))
  rw [pX6_verdictNow]
  refine g_aload_n C 0 0 dX6_verdictNow_0 rfl ?_
  refine g_iload_n C 1 1 dX6_verdictNow_1 rfl ?_
  refine g_iload_n C 2 2 dX6_verdictNow_2 rfl ?_
  refine g_iconst C 3 0 dX6_verdictNow_3 rfl ?_
  refine g_callVv (st := []) (As := [.int p1, .int p2, .int 0]) C EX_ok EX_vm 4 0 3 (tX6_prepare F p1 p2 0 u) rfl gX6_verdictNow_X6_prepare rfl rfl rfl (by decide +kernel) ⟨Nat.le_of_ble_eq_true rfl, Nat.le_of_ble_eq_true rfl⟩ rfl rfl rfl (Nat.le_of_ble_eq_true rfl) dX6_verdictNow_4 (fun u1 => ?_)
  refine g_aload_n C 7 0 dX6_verdictNow_7 rfl ?_
  refine gfX_X6_trial C 8 iX6 (List.mem_cons_of_mem _ (List.mem_append_right _ wgL_2_3.1)) dX6_verdictNow_8 ?_
  refine g_callVi (st := []) (As := []) C EX_ok EX_vm 11 6 0 (tX5_verdictHeld F u1) rfl gX6_verdictNow_X5_verdictHeld rfl rfl rfl (by decide +kernel) ⟨Nat.le_of_ble_eq_true rfl, Nat.le_of_ble_eq_true rfl⟩ rfl rfl rfl (Nat.le_of_ble_eq_true rfl) dX6_verdictNow_11 (fun r3 u2 => ?_)
  exact g_iret C 14 dX6_verdictNow_14
def pX6_hearForGood (F : Nat) (p1 : Int32) (p2 : Int32) (u : St) : Option (Int32 × St) :=
  bd (pX6_verdictNow F p1 p2 u) (fun (r2 : Int32) (u1 : St) => gd (inb 0 2) (gd (inb (2 * p1) 8) (vl (sta u1 1 (2 * p1) (u1.2 56 (Int32.toNatClampNeg 0))) (fun (u3 : St) => gd (inb 1 2) (gd (inb ((2 * p1) + 1) 8) (vl (sta u3 1 ((2 * p1) + 1) (u3.2 56 (Int32.toNatClampNeg 1))) (fun (u4 : St) => gd (inb p1 4) (vl (sta u4 3 p1 r2) (fun (u5 : St) => gd (inb p1 4) (vl (sta u5 5 p1 (u5.1 26)) (fun (u6 : St) => gd (inb p1 4) (vl (sta u6 6 p1 p2) (fun (u7 : St) => some (r2, u7))))))))))))))
set_option maxRecDepth 100000 in
set_option maxHeartbeats 4000000 in
theorem tX6_hearForGood {l : Launch} {D : va_G} {cI cZ : ClassId} {ad : Nat → Nat} {tBURNS tFLAME_BOUNDS : Nat} {tS : Option Nat} {adK adV : Nat → Nat} (F : Nat) (p1 : Int32) (p2 : Int32) (u : St) : CtI l D [(cI, .int), (cZ, .boolean)] (wX ad cI cZ) (EX tBURNS tFLAME_BOUNDS tS adK adV) yX6_hearForGood wsX6_hearForGood ({ frames := 5, cells := 0, slots := 0, locals := 107 } : Room) [.ref (ad 0), .int p1, .int p2] u (pX6_hearForGood F p1 p2 u) := by
  refine ctI_of (own := RX6) (cc := cX6_hearForGood) (n := 4) (ret := (some .int)) (by decide) rfl rfl (Nat.le_of_ble_eq_true rfl) (lv := [(0, .ref (ad 0)), (1, .int p1), (2, .int p2)]) rfl (fun C => ?_)
  have iX0 : ∀ w ∈ wsX00, w ∈ wsX6_hearForGood := fun w h => List.mem_cons_of_mem _ (List.mem_append_right _ (inlX0 w h))
  have iX5 : ∀ w ∈ wsX50, w ∈ wsX6_hearForGood := fun w h => List.mem_cons_of_mem _ (List.mem_append_right _ (inlX5 w h))
  have iX6 : ∀ w ∈ wsX60, w ∈ wsX6_hearForGood := fun w h => List.mem_cons_of_mem _ (List.mem_append_right _ (inlX6 w h))
  rw [pX6_hearForGood]
  refine g_aload_n C 0 0 dX6_hearForGood_0 rfl ?_
  refine g_iload_n C 1 1 dX6_hearForGood_1 rfl ?_
  refine g_iload_n C 2 2 dX6_hearForGood_2 rfl ?_
  refine g_callVi (st := []) (As := [.int p1, .int p2]) C EX_ok EX_vm 3 0 2 (tX6_verdictNow F p1 p2 u) rfl gX6_hearForGood_X6_verdictNow rfl rfl rfl (by decide +kernel) ⟨Nat.le_of_ble_eq_true rfl, Nat.le_of_ble_eq_true rfl⟩ rfl rfl rfl (Nat.le_of_ble_eq_true rfl) dX6_hearForGood_3 (fun r2 u1 => ?_)
  refine g_istore_n C 6 [(3, .int r2), (0, .ref (ad 0)), (1, .int p1), (2, .int p2)] dX6_hearForGood_6 (by decide) rfl ?_
  refine g_aload_n C 7 1 dX6_hearForGood_7 rfl ?_
  refine gfX_X6_court C 8 iX6 (List.mem_cons_of_mem _ (List.mem_append_right _ wgL_1_15.1)) dX6_hearForGood_8 ?_
  refine gfX_X0_length 0 (by decide) C 11 iX0 (List.mem_cons_of_mem _ (List.mem_append_right _ wgL_18_10.1)) dX6_hearForGood_11 ?_
  refine g_iconst C 14 2 dX6_hearForGood_14 rfl ?_
  refine g_iload_n C 15 2 dX6_hearForGood_15 rfl ?_
  refine g_imul C 16 dX6_hearForGood_16 ?_
  refine g_aload_n C 17 1 dX6_hearForGood_17 rfl ?_
  refine gfX_X6_trial C 18 iX6 (List.mem_cons_of_mem _ (List.mem_append_right _ wgL_2_3.1)) dX6_hearForGood_18 ?_
  refine gfX_X5_length C 21 iX5 (List.mem_cons_of_mem _ (List.mem_append_right _ wgL_25_3.1)) dX6_hearForGood_21 ?_
  refine g_iconst C 24 0 dX6_hearForGood_24 rfl ?_
  refine g_iald C 25 (10 + 56) 0 (wX_arr 56 (by decide)) rfl dX6_hearForGood_25 ?_
  refine g_iast C 26 (10 + 1) 0 1 (wX_arr 1 (by decide)) (wX_aset 1 (by decide)) rfl dX6_hearForGood_26 (fun u3 => ?_)
  refine g_aload_n C 27 1 dX6_hearForGood_27 rfl ?_
  refine gfX_X6_court C 28 iX6 (List.mem_cons_of_mem _ (List.mem_append_right _ wgL_1_15.1)) dX6_hearForGood_28 ?_
  refine gfX_X0_length 0 (by decide) C 31 iX0 (List.mem_cons_of_mem _ (List.mem_append_right _ wgL_18_10.1)) dX6_hearForGood_31 ?_
  refine g_iconst C 34 2 dX6_hearForGood_34 rfl ?_
  refine g_iload_n C 35 2 dX6_hearForGood_35 rfl ?_
  refine g_imul C 36 dX6_hearForGood_36 ?_
  refine g_iconst C 37 1 dX6_hearForGood_37 rfl ?_
  refine g_iadd C 38 dX6_hearForGood_38 ?_
  refine g_aload_n C 39 1 dX6_hearForGood_39 rfl ?_
  refine gfX_X6_trial C 40 iX6 (List.mem_cons_of_mem _ (List.mem_append_right _ wgL_2_3.1)) dX6_hearForGood_40 ?_
  refine gfX_X5_length C 43 iX5 (List.mem_cons_of_mem _ (List.mem_append_right _ wgL_25_3.1)) dX6_hearForGood_43 ?_
  refine g_iconst C 46 1 dX6_hearForGood_46 rfl ?_
  refine g_iald C 47 (10 + 56) 0 (wX_arr 56 (by decide)) rfl dX6_hearForGood_47 ?_
  refine g_iast C 48 (10 + 1) 0 1 (wX_arr 1 (by decide)) (wX_aset 1 (by decide)) rfl dX6_hearForGood_48 (fun u4 => ?_)
  refine g_aload_n C 49 1 dX6_hearForGood_49 rfl ?_
  refine gfX_X6_court C 50 iX6 (List.mem_cons_of_mem _ (List.mem_append_right _ wgL_1_15.1)) dX6_hearForGood_50 ?_
  refine gfX_X0_verdict 0 (by decide) C 53 iX0 (List.mem_cons_of_mem _ (List.mem_append_right _ wgL_18_9.1)) dX6_hearForGood_53 ?_
  refine g_iload_n C 56 2 dX6_hearForGood_56 rfl ?_
  refine g_iload_n C 57 0 dX6_hearForGood_57 rfl ?_
  refine g_iast C 58 (10 + 3) 0 3 (wX_arr 3 (by decide)) (wX_aset 3 (by decide)) rfl dX6_hearForGood_58 (fun u5 => ?_)
  refine g_aload_n C 59 1 dX6_hearForGood_59 rfl ?_
  refine gfX_X6_court C 60 iX6 (List.mem_cons_of_mem _ (List.mem_append_right _ wgL_1_15.1)) dX6_hearForGood_60 ?_
  refine gfX_X0_endMinute 0 (by decide) C 63 iX0 (List.mem_cons_of_mem _ (List.mem_append_right _ wgL_20_13.1)) dX6_hearForGood_63 ?_
  refine g_iload_n C 66 2 dX6_hearForGood_66 rfl ?_
  refine g_aload_n C 67 1 dX6_hearForGood_67 rfl ?_
  refine gfX_X6_trial C 68 iX6 (List.mem_cons_of_mem _ (List.mem_append_right _ wgL_2_3.1)) dX6_hearForGood_68 ?_
  refine gfX_X5_minute C 71 iX5 (List.mem_cons_of_mem _ (List.mem_append_right _ wgL_25_4.1)) dX6_hearForGood_71 ?_
  refine g_iast C 74 (10 + 5) 0 5 (wX_arr 5 (by decide)) (wX_aset 5 (by decide)) rfl dX6_hearForGood_74 (fun u6 => ?_)
  refine g_aload_n C 75 1 dX6_hearForGood_75 rfl ?_
  refine gfX_X6_court C 76 iX6 (List.mem_cons_of_mem _ (List.mem_append_right _ wgL_1_15.1)) dX6_hearForGood_76 ?_
  refine gfX_X0_endJudge 0 (by decide) C 79 iX0 (List.mem_cons_of_mem _ (List.mem_append_right _ wgL_20_14.1)) dX6_hearForGood_79 ?_
  refine g_iload_n C 82 2 dX6_hearForGood_82 rfl ?_
  refine g_iload_n C 83 3 dX6_hearForGood_83 rfl ?_
  refine g_iast C 84 (10 + 6) 0 6 (wX_arr 6 (by decide)) (wX_aset 6 (by decide)) rfl dX6_hearForGood_84 (fun u7 => ?_)
  refine g_iload_n C 85 0 dX6_hearForGood_85 rfl ?_
  exact g_iret C 86 dX6_hearForGood_86
def pX6_hear (F : Nat) (p1 : Int32) (p2 : Int32) (u : St) : Option (Int32 × St) :=
  bd (pX0_hasCase F 0 (Int32.toInt64 p1) u) (fun (r2 : Int32) (u1 : St) => if r2 = 0 then some ((-1), u1) else bd (pX0_hasJudge F 0 p2 u1) (fun (r4 : Int32) (u3 : St) => if r4 = 0 then some ((-1), u3) else gd (inb p1 4) (if (u3.2 3 (Int32.toNatClampNeg p1)) = 0 then bd (pX6_hearForGood F p1 p2 u3) (fun (r6 : Int32) (u5 : St) => some (r6, u5)) else some ((-2), u3))))
set_option maxRecDepth 100000 in
set_option maxHeartbeats 4000000 in
theorem tX6_hear {l : Launch} {D : va_G} {cI cZ : ClassId} {ad : Nat → Nat} {tBURNS tFLAME_BOUNDS : Nat} {tS : Option Nat} {adK adV : Nat → Nat} (F : Nat) (p1 : Int32) (p2 : Int32) (u : St) : CtI l D [(cI, .int), (cZ, .boolean)] (wX ad cI cZ) (EX tBURNS tFLAME_BOUNDS tS adK adV) yX6_hear wsX6_hear ({ frames := 6, cells := 0, slots := 0, locals := 130 } : Room) [.ref (ad 0), .int p1, .int p2] u (pX6_hear F p1 p2 u) := by
  refine ctI_of (own := RX6) (cc := cX6_hear) (n := 3) (ret := (some .int)) (by decide) rfl rfl (Nat.le_of_ble_eq_true rfl) (lv := [(0, .ref (ad 0)), (1, .int p1), (2, .int p2)]) rfl (fun C => ?_)
  have iX0 : ∀ w ∈ wsX00, w ∈ wsX6_hear := fun w h => List.mem_cons_of_mem _ (List.mem_append_right _ (inlX0 w h))
  have iX6 : ∀ w ∈ wsX60, w ∈ wsX6_hear := fun w h => List.mem_cons_of_mem _ (List.mem_append_right _ (inlX6 w h))
  rw [pX6_hear]
  refine g_aload_n C 0 0 dX6_hear_0 rfl ?_
  refine gfX_X6_court C 1 iX6 (List.mem_cons_of_mem _ (List.mem_append_right _ wgL_1_15.1)) dX6_hear_1 ?_
  refine g_iload_n C 4 1 dX6_hear_4 rfl ?_
  refine g_i2l C 5 dX6_hear_5 ?_
  refine g_callVi (st := []) (As := [.long (Int32.toInt64 p1)]) C EX_ok EX_vm 6 1 1 (tX0_hasCase F 0 (by decide) (Int32.toInt64 p1) u) rfl gX6_hear_X0_hasCase rfl rfl rfl (by decide +kernel) ⟨Nat.le_of_ble_eq_true rfl, Nat.le_of_ble_eq_true rfl⟩ (wX_X0 ad cI cZ _ 0 (by decide)) rfl rfl (Nat.le_of_ble_eq_true rfl) dX6_hear_6 (fun r2 u1 => ?_)
  refine g_if_eq C 9 23 dX6_hear_9 (by decide) ?_ ?_
  · skip
    refine g_iconst C 23 (-1) dX6_hear_23 rfl ?_
    exact g_iret C 24 dX6_hear_24
  · skip
    refine g_aload_n C 12 0 dX6_hear_12 rfl ?_
    refine gfX_X6_court C 13 iX6 (List.mem_cons_of_mem _ (List.mem_append_right _ wgL_1_15.1)) dX6_hear_13 ?_
    refine g_iload_n C 16 2 dX6_hear_16 rfl ?_
    refine g_callVi (st := []) (As := [.int p2]) C EX_ok EX_vm 17 1 1 (tX0_hasJudge F 0 (by decide) p2 u1) rfl gX6_hear_X0_hasJudge rfl rfl rfl (by decide +kernel) ⟨Nat.le_of_ble_eq_true rfl, Nat.le_of_ble_eq_true rfl⟩ (wX_X0 ad cI cZ _ 0 (by decide)) rfl rfl (Nat.le_of_ble_eq_true rfl) dX6_hear_17 (fun r4 u3 => ?_)
    refine g_if_ne C 20 25 dX6_hear_20 (by decide) ?_ ?_
    · skip
      refine g_aload_n C 25 0 dX6_hear_25 rfl ?_
      refine gfX_X6_court C 26 iX6 (List.mem_cons_of_mem _ (List.mem_append_right _ wgL_1_15.1)) dX6_hear_26 ?_
      refine gfX_X0_verdict 0 (by decide) C 29 iX0 (List.mem_cons_of_mem _ (List.mem_append_right _ wgL_18_9.1)) dX6_hear_29 ?_
      refine g_iload_n C 32 1 dX6_hear_32 rfl ?_
      refine g_iald C 33 (10 + 3) 0 (wX_arr 3 (by decide)) rfl dX6_hear_33 ?_
      refine g_if_eq C 34 42 dX6_hear_34 (by decide) ?_ ?_
      · skip
        refine g_aload_n C 42 0 dX6_hear_42 rfl ?_
        refine g_iload_n C 43 1 dX6_hear_43 rfl ?_
        refine g_iload_n C 44 2 dX6_hear_44 rfl ?_
        refine g_callVi (st := []) (As := [.int p1, .int p2]) C EX_ok EX_vm 45 0 2 (tX6_hearForGood F p1 p2 u3) rfl gX6_hear_X6_hearForGood rfl rfl rfl (by decide +kernel) ⟨Nat.le_of_ble_eq_true rfl, Nat.le_of_ble_eq_true rfl⟩ rfl rfl rfl (Nat.le_of_ble_eq_true rfl) dX6_hear_45 (fun r6 u5 => ?_)
        exact g_iret C 48 dX6_hear_48
      · skip
        refine g_bipush C 37 (-2) dX6_hear_37 rfl ?_
        refine g_goto C 39 48 dX6_hear_39 (by decide) ?_
        exact g_iret C 48 dX6_hear_48
    · skip
      refine g_iconst C 23 (-1) dX6_hear_23 rfl ?_
      exact g_iret C 24 dX6_hear_24
def jX6_appeal_102 (F : Nat) (p1 : Int32)  (u6 : St) : Option (Int32 × St) :=
  gd (inb (2 * p1) 8) (gd (inb ((2 * p1) + 1) 8) (some (((u6.2 1 (Int32.toNatClampNeg (2 * p1))) + (u6.2 1 (Int32.toNatClampNeg ((2 * p1) + 1)))), u6)))
def bX6_appeal_65 (F : Nat) (p1 : Int32) (J102 : St → Option (Int32 × St)) (self9 : Int32 → St → Option (Int32 × St)) (x7 : Int32) (u8 : St) : Option (Int32 × St) :=
  if ((2 * p1) + 2) ≤ x7 then (J102 u8) else gd (inb x7 8) (gd (inb x7 8) (vl (sta u8 1 x7 (if 1 < (u8.2 1 (Int32.toNatClampNeg x7)) then (u8.2 1 (Int32.toNatClampNeg x7)) else 1)) (fun (u10 : St) => (self9 (x7 + 1) u10))))
def pX6_appeal (F : Nat) (p1 : Int32) (u : St) : Option (Int32 × St) :=
  bd (pX0_hasCase F 0 (Int32.toInt64 p1) u) (fun (r2 : Int32) (u1 : St) => if r2 = 0 then some ((-1), u1) else gd (inb p1 4) (if (u1.2 3 (Int32.toNatClampNeg p1)) = 0 then some ((-2), u1) else gd (inb p1 4) (if (u1.2 4 (Int32.toNatClampNeg p1)) = 0 then gd (inb p1 4) (vl (sta u1 3 p1 0) (fun (u3 : St) => gd (inb p1 4) (vl (sta u3 4 p1 1) (fun (u4 : St) => vl (2 * p1) (fun v5 => jn (jX6_appeal_102 F p1) (fun (J102 : St → Option (Int32 × St)) => (lq1 (bX6_appeal_65 F p1 J102) F v5 u4))))))) else some ((-2), u1))))
set_option maxRecDepth 100000 in
set_option maxHeartbeats 4000000 in
theorem tX6_appeal {l : Launch} {D : va_G} {cI cZ : ClassId} {ad : Nat → Nat} {tBURNS tFLAME_BOUNDS : Nat} {tS : Option Nat} {adK adV : Nat → Nat} (F : Nat) (p1 : Int32) (u : St) : CtI l D [(cI, .int), (cZ, .boolean)] (wX ad cI cZ) (EX tBURNS tFLAME_BOUNDS tS adK adV) yX6_appeal wsX6_appeal ({ frames := 2, cells := 0, slots := 0, locals := 45 } : Room) [.ref (ad 0), .int p1] u (pX6_appeal F p1 u) := by
  refine ctI_of (own := RX6) (cc := cX6_appeal) (n := 3) (ret := (some .int)) (by decide) rfl rfl (Nat.le_of_ble_eq_true rfl) (lv := [(0, .ref (ad 0)), (1, .int p1)]) rfl (fun C => ?_)
  have iX0 : ∀ w ∈ wsX00, w ∈ wsX6_appeal := fun w h => List.mem_cons_of_mem _ (List.mem_append_right _ (inlX0 w h))
  have iX6 : ∀ w ∈ wsX60, w ∈ wsX6_appeal := fun w h => List.mem_cons_of_mem _ (List.mem_append_right _ (inlX6 w h))
  rw [pX6_appeal]
  refine g_aload_n C 0 0 dX6_appeal_0 rfl ?_
  refine gfX_X6_court C 1 iX6 (List.mem_cons_of_mem _ (List.mem_append_right _ wgL_1_15.1)) dX6_appeal_1 ?_
  refine g_iload_n C 4 1 dX6_appeal_4 rfl ?_
  refine g_i2l C 5 dX6_appeal_5 ?_
  refine g_callVi (st := []) (As := [.long (Int32.toInt64 p1)]) C EX_ok EX_vm 6 1 1 (tX0_hasCase F 0 (by decide) (Int32.toInt64 p1) u) rfl gX6_appeal_X0_hasCase rfl rfl rfl (by decide +kernel) ⟨Nat.le_of_ble_eq_true rfl, Nat.le_of_ble_eq_true rfl⟩ (wX_X0 ad cI cZ _ 0 (by decide)) rfl rfl (Nat.le_of_ble_eq_true rfl) dX6_appeal_6 (fun r2 u1 => ?_)
  refine g_if_ne C 9 14 dX6_appeal_9 (by decide) ?_ ?_
  · skip
    refine g_aload_n C 14 0 dX6_appeal_14 rfl ?_
    refine gfX_X6_court C 15 iX6 (List.mem_cons_of_mem _ (List.mem_append_right _ wgL_1_15.1)) dX6_appeal_15 ?_
    refine gfX_X0_verdict 0 (by decide) C 18 iX0 (List.mem_cons_of_mem _ (List.mem_append_right _ wgL_18_9.1)) dX6_appeal_18 ?_
    refine g_iload_n C 21 1 dX6_appeal_21 rfl ?_
    refine g_iald C 22 (10 + 3) 0 (wX_arr 3 (by decide)) rfl dX6_appeal_22 ?_
    refine g_if_eq C 23 38 dX6_appeal_23 (by decide) ?_ ?_
    · skip
      refine g_bipush C 38 (-2) dX6_appeal_38 rfl ?_
      exact g_iret C 40 dX6_appeal_40
    · skip
      refine g_aload_n C 26 0 dX6_appeal_26 rfl ?_
      refine gfX_X6_court C 27 iX6 (List.mem_cons_of_mem _ (List.mem_append_right _ wgL_1_15.1)) dX6_appeal_27 ?_
      refine gfX_X0_appealed 0 (by decide) C 30 iX0 (List.mem_cons_of_mem _ (List.mem_append_right _ wgL_20_12.1)) dX6_appeal_30 ?_
      refine g_iload_n C 33 1 dX6_appeal_33 rfl ?_
      refine g_iald C 34 (10 + 4) 0 (wX_arr 4 (by decide)) rfl dX6_appeal_34 ?_
      refine g_if_eq C 35 41 dX6_appeal_35 (by decide) ?_ ?_
      · skip
        refine g_aload_n C 41 0 dX6_appeal_41 rfl ?_
        refine gfX_X6_court C 42 iX6 (List.mem_cons_of_mem _ (List.mem_append_right _ wgL_1_15.1)) dX6_appeal_42 ?_
        refine gfX_X0_verdict 0 (by decide) C 45 iX0 (List.mem_cons_of_mem _ (List.mem_append_right _ wgL_18_9.1)) dX6_appeal_45 ?_
        refine g_iload_n C 48 1 dX6_appeal_48 rfl ?_
        refine g_iconst C 49 0 dX6_appeal_49 rfl ?_
        refine g_iast C 50 (10 + 3) 0 3 (wX_arr 3 (by decide)) (wX_aset 3 (by decide)) rfl dX6_appeal_50 (fun u3 => ?_)
        refine g_aload_n C 51 0 dX6_appeal_51 rfl ?_
        refine gfX_X6_court C 52 iX6 (List.mem_cons_of_mem _ (List.mem_append_right _ wgL_1_15.1)) dX6_appeal_52 ?_
        refine gfX_X0_appealed 0 (by decide) C 55 iX0 (List.mem_cons_of_mem _ (List.mem_append_right _ wgL_20_12.1)) dX6_appeal_55 ?_
        refine g_iload_n C 58 1 dX6_appeal_58 rfl ?_
        refine g_iconst C 59 1 dX6_appeal_59 rfl ?_
        refine g_iast C 60 (10 + 4) 0 4 (wX_arr 4 (by decide)) (wX_aset 4 (by decide)) rfl dX6_appeal_60 (fun u4 => ?_)
        refine g_iconst C 61 2 dX6_appeal_61 rfl ?_
        refine g_iload_n C 62 1 dX6_appeal_62 rfl ?_
        refine g_imul C 63 dX6_appeal_63 ?_
        refine g_istore_nV C 64 (fun v5 => [(2, .int v5), (0, .ref (ad 0)), (1, .int p1)]) dX6_appeal_64 (by decide) (fun _ => rfl) (fun v5 => ?_)
        refine g_jn0 102 ([(0, .ref (ad 0)), (1, .int p1)]) ([]) (fun u6 => ?_) (fun J102 hJ102 => ?_)
        · skip
          rw [jX6_appeal_102]
          refine g_aload_n C 102 0 dX6_appeal_102 rfl ?_
          refine gfX_X6_court C 103 iX6 (List.mem_cons_of_mem _ (List.mem_append_right _ wgL_1_15.1)) dX6_appeal_103 ?_
          refine gfX_X0_length 0 (by decide) C 106 iX0 (List.mem_cons_of_mem _ (List.mem_append_right _ wgL_18_10.1)) dX6_appeal_106 ?_
          refine g_iconst C 109 2 dX6_appeal_109 rfl ?_
          refine g_iload_n C 110 1 dX6_appeal_110 rfl ?_
          refine g_imul C 111 dX6_appeal_111 ?_
          refine g_iald C 112 (10 + 1) 0 (wX_arr 1 (by decide)) rfl dX6_appeal_112 ?_
          refine g_aload_n C 113 0 dX6_appeal_113 rfl ?_
          refine gfX_X6_court C 114 iX6 (List.mem_cons_of_mem _ (List.mem_append_right _ wgL_1_15.1)) dX6_appeal_114 ?_
          refine gfX_X0_length 0 (by decide) C 117 iX0 (List.mem_cons_of_mem _ (List.mem_append_right _ wgL_18_10.1)) dX6_appeal_117 ?_
          refine g_iconst C 120 2 dX6_appeal_120 rfl ?_
          refine g_iload_n C 121 1 dX6_appeal_121 rfl ?_
          refine g_imul C 122 dX6_appeal_122 ?_
          refine g_iconst C 123 1 dX6_appeal_123 rfl ?_
          refine g_iadd C 124 dX6_appeal_124 ?_
          refine g_iald C 125 (10 + 1) 0 (wX_arr 1 (by decide)) rfl dX6_appeal_125 ?_
          refine g_iadd C 126 dX6_appeal_126 ?_
          exact g_iret C 127 dX6_appeal_127
        · skip
          refine g_sub _ [1, 2, 0] rfl ?_
          refine g_lq1 (fun (x7 : Int32) => [(0, .ref (ad 0)), (1, .int p1), (2, .int x7)]) (fun self9 hself9 x7 u8 => ?_) F v5 u4
          rw [bX6_appeal_65]
          refine g_iload_n C 65 2 dX6_appeal_65 rfl ?_
          refine g_iconst C 66 2 dX6_appeal_66 rfl ?_
          refine g_iload_n C 67 1 dX6_appeal_67 rfl ?_
          refine g_imul C 68 dX6_appeal_68 ?_
          refine g_iconst C 69 2 dX6_appeal_69 rfl ?_
          refine g_iadd C 70 dX6_appeal_70 ?_
          refine g_icmp_ge C 71 102 dX6_appeal_71 (by decide) ?_ ?_
          · skip
            exact g_sub _ [0, 1] rfl (hJ102 u8)
          · skip
            refine g_aload_n C 74 0 dX6_appeal_74 rfl ?_
            refine gfX_X6_court C 75 iX6 (List.mem_cons_of_mem _ (List.mem_append_right _ wgL_1_15.1)) dX6_appeal_75 ?_
            refine gfX_X0_length 0 (by decide) C 78 iX0 (List.mem_cons_of_mem _ (List.mem_append_right _ wgL_18_10.1)) dX6_appeal_78 ?_
            refine g_iload_n C 81 2 dX6_appeal_81 rfl ?_
            refine g_iconst C 82 1 dX6_appeal_82 rfl ?_
            refine g_aload_n C 83 0 dX6_appeal_83 rfl ?_
            refine gfX_X6_court C 84 iX6 (List.mem_cons_of_mem _ (List.mem_append_right _ wgL_1_15.1)) dX6_appeal_84 ?_
            refine gfX_X0_length 0 (by decide) C 87 iX0 (List.mem_cons_of_mem _ (List.mem_append_right _ wgL_18_10.1)) dX6_appeal_87 ?_
            refine g_iload_n C 90 2 dX6_appeal_90 rfl ?_
            refine g_iald C 91 (10 + 1) 0 (wX_arr 1 (by decide)) rfl dX6_appeal_91 ?_
            refine g_mmax C 92 (by decide +kernel) (by decide +kernel) (by decide +kernel) (by decide +kernel) ⟨Nat.le_of_ble_eq_true rfl, Nat.le_of_ble_eq_true rfl⟩ dX6_appeal_92 ?_
            refine g_iast C 95 (10 + 1) 0 1 (wX_arr 1 (by decide)) (wX_aset 1 (by decide)) rfl dX6_appeal_95 (fun u10 => ?_)
            refine g_iinc C 96 2 [(2, .int (x7 + 1)), (0, .ref (ad 0)), (1, .int p1)] dX6_appeal_96 rfl rfl (by decide) rfl ?_
            refine g_goto C 99 65 dX6_appeal_99 (by decide) ?_
            exact g_sub _ [1, 2, 0] rfl (hself9 (x7 + 1) u10)
      · skip
        refine g_bipush C 38 (-2) dX6_appeal_38 rfl ?_
        exact g_iret C 40 dX6_appeal_40
  · skip
    refine g_iconst C 12 (-1) dX6_appeal_12 rfl ?_
    exact g_iret C 13 dX6_appeal_13
def pX6_foretell (F : Nat) (p1 : Int32) (p2 : Int32) (p3 : Int32) (u : St) : Option (Int32 × St) :=
  bd (pX0_hasCase F 0 (Int32.toInt64 p1) u) (fun (r2 : Int32) (u1 : St) => if r2 = 0 then some ((-1), u1) else bd (pX0_hasJudge F 0 p2 u1) (fun (r4 : Int32) (u3 : St) => if r4 = 0 then some ((-1), u3) else bd (pX6_isIn F (Int32.toInt64 p3) 0 2 u3) (fun (r6 : Int32) (u5 : St) => if r6 = 0 then some ((-1), u5) else bd (pX6_verdictNow F p1 p2 u5) (fun (r8 : Int32) (u7 : St) => if p3 = 0 then some (r8, u7) else if p3 = 1 then some ((u7.1 26), u7) else gd (inb 0 2) (gd (inb 1 2) (some (((u7.2 56 (Int32.toNatClampNeg 0)) + (u7.2 56 (Int32.toNatClampNeg 1))), u7)))))))
set_option maxRecDepth 100000 in
set_option maxHeartbeats 4000000 in
theorem tX6_foretell {l : Launch} {D : va_G} {cI cZ : ClassId} {ad : Nat → Nat} {tBURNS tFLAME_BOUNDS : Nat} {tS : Option Nat} {adK adV : Nat → Nat} (F : Nat) (p1 : Int32) (p2 : Int32) (p3 : Int32) (u : St) : CtI l D [(cI, .int), (cZ, .boolean)] (wX ad cI cZ) (EX tBURNS tFLAME_BOUNDS tS adK adV) yX6_foretell wsX6_foretell ({ frames := 5, cells := 0, slots := 0, locals := 107 } : Room) [.ref (ad 0), .int p1, .int p2, .int p3] u (pX6_foretell F p1 p2 p3 u) := by
  refine ctI_of (own := RX6) (cc := cX6_foretell) (n := 5) (ret := (some .int)) (by decide) rfl rfl (Nat.le_of_ble_eq_true rfl) (lv := [(0, .ref (ad 0)), (1, .int p1), (2, .int p2), (3, .int p3)]) rfl (fun C => ?_)
  have iX5 : ∀ w ∈ wsX50, w ∈ wsX6_foretell := fun w h => List.mem_cons_of_mem _ (List.mem_append_right _ (inlX5 w h))
  have iX6 : ∀ w ∈ wsX60, w ∈ wsX6_foretell := fun w h => List.mem_cons_of_mem _ (List.mem_append_right _ (inlX6 w h))
  rw [pX6_foretell]
  refine g_aload_n C 0 0 dX6_foretell_0 rfl ?_
  refine gfX_X6_court C 1 iX6 (List.mem_cons_of_mem _ (List.mem_append_right _ wgL_1_15.1)) dX6_foretell_1 ?_
  refine g_iload_n C 4 1 dX6_foretell_4 rfl ?_
  refine g_i2l C 5 dX6_foretell_5 ?_
  refine g_callVi (st := []) (As := [.long (Int32.toInt64 p1)]) C EX_ok EX_vm 6 1 1 (tX0_hasCase F 0 (by decide) (Int32.toInt64 p1) u) rfl gX6_foretell_X0_hasCase rfl rfl rfl (by decide +kernel) ⟨Nat.le_of_ble_eq_true rfl, Nat.le_of_ble_eq_true rfl⟩ (wX_X0 ad cI cZ _ 0 (by decide)) rfl rfl (Nat.le_of_ble_eq_true rfl) dX6_foretell_6 (fun r2 u1 => ?_)
  refine g_if_eq C 9 33 dX6_foretell_9 (by decide) ?_ ?_
  · skip
    refine g_iconst C 33 (-1) dX6_foretell_33 rfl ?_
    exact g_iret C 34 dX6_foretell_34
  · skip
    refine g_aload_n C 12 0 dX6_foretell_12 rfl ?_
    refine gfX_X6_court C 13 iX6 (List.mem_cons_of_mem _ (List.mem_append_right _ wgL_1_15.1)) dX6_foretell_13 ?_
    refine g_iload_n C 16 2 dX6_foretell_16 rfl ?_
    refine g_callVi (st := []) (As := [.int p2]) C EX_ok EX_vm 17 1 1 (tX0_hasJudge F 0 (by decide) p2 u1) rfl gX6_foretell_X0_hasJudge rfl rfl rfl (by decide +kernel) ⟨Nat.le_of_ble_eq_true rfl, Nat.le_of_ble_eq_true rfl⟩ (wX_X0 ad cI cZ _ 0 (by decide)) rfl rfl (Nat.le_of_ble_eq_true rfl) dX6_foretell_17 (fun r4 u3 => ?_)
    refine g_if_eq C 20 33 dX6_foretell_20 (by decide) ?_ ?_
    · skip
      refine g_iconst C 33 (-1) dX6_foretell_33 rfl ?_
      exact g_iret C 34 dX6_foretell_34
    · skip
      refine g_iload_n C 23 3 dX6_foretell_23 rfl ?_
      refine g_i2l C 24 dX6_foretell_24 ?_
      refine g_iconst C 25 0 dX6_foretell_25 rfl ?_
      refine g_iconst C 26 2 dX6_foretell_26 rfl ?_
      refine g_callSi (st := []) (As := [.long (Int32.toInt64 p3), .int 0, .int 2]) C EX_ok EX_vm 27 3 (tX6_isIn F (Int32.toInt64 p3) 0 2 u3) rfl gX6_foretell_X6_isIn rfl rfl rfl (by decide +kernel) ⟨Nat.le_of_ble_eq_true rfl, Nat.le_of_ble_eq_true rfl⟩ rfl (Nat.le_of_ble_eq_true rfl) dX6_foretell_27 (fun r6 u5 => ?_)
      refine g_if_ne C 30 35 dX6_foretell_30 (by decide) ?_ ?_
      · skip
        refine g_aload_n C 35 0 dX6_foretell_35 rfl ?_
        refine g_iload_n C 36 1 dX6_foretell_36 rfl ?_
        refine g_iload_n C 37 2 dX6_foretell_37 rfl ?_
        refine g_callVi (st := []) (As := [.int p1, .int p2]) C EX_ok EX_vm 38 0 2 (tX6_verdictNow F p1 p2 u5) rfl gX6_foretell_X6_verdictNow rfl rfl rfl (by decide +kernel) ⟨Nat.le_of_ble_eq_true rfl, Nat.le_of_ble_eq_true rfl⟩ rfl rfl rfl (Nat.le_of_ble_eq_true rfl) dX6_foretell_38 (fun r8 u7 => ?_)
        refine g_istore C 41 [(4, .int r8), (0, .ref (ad 0)), (1, .int p1), (2, .int p2), (3, .int p3)] dX6_foretell_41 (by decide) rfl ?_
        refine g_iload_n C 43 4 dX6_foretell_43 rfl ?_
        refine g_if_ne C 44 50 dX6_foretell_44 (by decide) ?_ ?_
        · skip
          refine g_iload_n C 50 4 dX6_foretell_50 rfl ?_
          refine g_iconst C 51 1 dX6_foretell_51 rfl ?_
          refine g_icmp_ne C 52 65 dX6_foretell_52 (by decide) ?_ ?_
          · skip
            refine g_aload_n C 65 1 dX6_foretell_65 rfl ?_
            refine gfX_X6_trial C 66 iX6 (List.mem_cons_of_mem _ (List.mem_append_right _ wgL_2_3.1)) dX6_foretell_66 ?_
            refine gfX_X5_length C 69 iX5 (List.mem_cons_of_mem _ (List.mem_append_right _ wgL_25_3.1)) dX6_foretell_69 ?_
            refine g_iconst C 72 0 dX6_foretell_72 rfl ?_
            refine g_iald C 73 (10 + 56) 0 (wX_arr 56 (by decide)) rfl dX6_foretell_73 ?_
            refine g_aload_n C 74 1 dX6_foretell_74 rfl ?_
            refine gfX_X6_trial C 75 iX6 (List.mem_cons_of_mem _ (List.mem_append_right _ wgL_2_3.1)) dX6_foretell_75 ?_
            refine gfX_X5_length C 78 iX5 (List.mem_cons_of_mem _ (List.mem_append_right _ wgL_25_3.1)) dX6_foretell_78 ?_
            refine g_iconst C 81 1 dX6_foretell_81 rfl ?_
            refine g_iald C 82 (10 + 56) 0 (wX_arr 56 (by decide)) rfl dX6_foretell_82 ?_
            refine g_iadd C 83 dX6_foretell_83 ?_
            exact g_iret C 84 dX6_foretell_84
          · skip
            refine g_aload_n C 55 1 dX6_foretell_55 rfl ?_
            refine gfX_X6_trial C 56 iX6 (List.mem_cons_of_mem _ (List.mem_append_right _ wgL_2_3.1)) dX6_foretell_56 ?_
            refine gfX_X5_minute C 59 iX5 (List.mem_cons_of_mem _ (List.mem_append_right _ wgL_25_4.1)) dX6_foretell_59 ?_
            refine g_goto C 62 84 dX6_foretell_62 (by decide) ?_
            exact g_iret C 84 dX6_foretell_84
        · skip
          refine g_iload C 47 0 dX6_foretell_47 rfl ?_
          exact g_iret C 49 dX6_foretell_49
      · skip
        refine g_iconst C 33 (-1) dX6_foretell_33 rfl ?_
        exact g_iret C 34 dX6_foretell_34
def bX3_goByDocket_25 (F : Nat) (p3 : Int32) (self6 : Int32 → St → Option (Unit × St)) (x4 : Int32) (u5 : St) : Option (Unit × St) :=
  if (u5.1 3) ≤ x4 then some ((), u5) else gd (inb x4 6) (vl (u5.2 11 (Int32.toNatClampNeg x4)) (fun v7 => gd (inb v7 4) (jn (fun (u8 : St) => (self6 (x4 + 1) u8)) (fun (J112 : St → Option (Unit × St)) => if (u5.2 59 (Int32.toNatClampNeg v7)) = 0 then gd (inb x4 6) (bd (pX5_prepare F v7 (u5.2 12 (Int32.toNatClampNeg x4)) p3 u5) (fun (_ : Unit) (u10 : St) => bd (pX5_verdictHeld F u10) (fun (r12 : Int32) (u11 : St) => gd (inb v7 4) (vl (sta u11 59 v7 r12) (fun (u13 : St) => vl (stf u13 28 ((u13.1 28) + ((u13.1 26) + 1))) (fun (u14 : St) => (J112 u14))))))) else if (u5.1 27) = (-4) then vl (stf u5 27 x4) (fun (u9 : St) => (J112 u9)) else (J112 u5)))))
def pX3_goByDocket (F : Nat) (p3 : Int32) (u : St) : Option (Unit × St) :=
  bd (pX6_copyRow F 3 59 u) (fun (_ : Unit) (u1 : St) => vl (stf u1 27 (-4)) (fun (u2 : St) => vl (stf u2 28 0) (fun (u3 : St) => (lq1 (bX3_goByDocket_25 F p3) F 0 u3))))
set_option maxRecDepth 100000 in
set_option maxHeartbeats 4000000 in
theorem tX3_goByDocket {l : Launch} {D : va_G} {cI cZ : ClassId} {ad : Nat → Nat} {tBURNS tFLAME_BOUNDS : Nat} {tS : Option Nat} {adK adV : Nat → Nat} (F : Nat) (p3 : Int32) (u : St) : CtV l D [(cI, .int), (cZ, .boolean)] (wX ad cI cZ) (EX tBURNS tFLAME_BOUNDS tS adK adV) yX3_goByDocket wsX3_goByDocket ({ frames := 3, cells := 0, slots := 0, locals := 62 } : Room) [.ref (ad 7), .ref (ad 1), .ref (ad 6), .int p3] u (pX3_goByDocket F p3 u) := by
  refine ctV_of (own := RX3) (cc := cX3_goByDocket) (n := 6) (ret := none) (by decide) rfl rfl (Nat.le_of_ble_eq_true rfl) (lv := [(0, .ref (ad 7)), (1, .ref (ad 1)), (2, .ref (ad 6)), (3, .int p3)]) rfl (fun C => ?_)
  have iX0 : ∀ w ∈ wsX00, w ∈ wsX3_goByDocket := fun w h => List.mem_cons_of_mem _ (List.mem_append_right _ (inlX0 w h))
  have iX3 : ∀ w ∈ wsX30, w ∈ wsX3_goByDocket := fun w h => List.mem_cons_of_mem _ (List.mem_append_right _ (inlX3 w h))
  have iX5 : ∀ w ∈ wsX50, w ∈ wsX3_goByDocket := fun w h => List.mem_cons_of_mem _ (List.mem_append_right _ (inlX5 w h))
  rw [pX3_goByDocket]
  refine g_aload_n C 0 1 dX3_goByDocket_0 rfl ?_
  refine gfX_X0_verdict 0 (by decide) C 1 iX0 (List.mem_cons_of_mem _ (List.mem_append_right _ wgL_30_5.1)) dX3_goByDocket_1 ?_
  refine g_aload_n C 4 0 dX3_goByDocket_4 rfl ?_
  refine gfX_X3_verdict C 5 iX3 (List.mem_cons_of_mem _ (List.mem_append_right _ wgL_4_18.1)) dX3_goByDocket_5 ?_
  refine g_callNv (st := []) (As := [.ref (ad (10 + 3)), .ref (ad (10 + 59))]) C EX_ok EX_vm 8 2 (tX6_copyRow F 3 (by decide) 59 (by decide) u) rfl ggX3_goByDocket_X6_copyRow rfl rfl rfl (EX_n3 C.2.2.2.2.2.2.2.2.1) (by decide +kernel) (by decide +kernel) (by decide +kernel) ⟨Nat.le_of_ble_eq_true rfl, Nat.le_of_ble_eq_true rfl⟩ rfl (Nat.le_of_ble_eq_true rfl) dX3_goByDocket_8 (fun u1 => ?_)
  refine g_aload_n C 11 0 dX3_goByDocket_11 rfl ?_
  refine g_bipush C 12 (-4) dX3_goByDocket_12 rfl ?_
  refine pfX_X3_firstPassed C 14 iX3 (List.mem_cons_of_mem _ (List.mem_append_right _ wgL_4_19.1)) dX3_goByDocket_14 (fun u2 => ?_)
  refine g_aload_n C 17 0 dX3_goByDocket_17 rfl ?_
  refine g_iconst C 18 0 dX3_goByDocket_18 rfl ?_
  refine pfX_X3_minutes C 19 iX3 (List.mem_cons_of_mem _ (List.mem_append_right _ wgL_4_20.1)) dX3_goByDocket_19 (fun u3 => ?_)
  refine g_iconst C 22 0 dX3_goByDocket_22 rfl ?_
  refine g_istore C 23 [(4, .int 0), (0, .ref (ad 7)), (1, .ref (ad 1)), (2, .ref (ad 6)), (3, .int p3)] dX3_goByDocket_23 (by decide) rfl ?_
  refine g_sub _ [1, 2, 3, 4, 0] rfl ?_
  refine g_lq1 (fun (x4 : Int32) => [(0, .ref (ad 7)), (1, .ref (ad 1)), (2, .ref (ad 6)), (3, .int p3), (4, .int x4)]) (fun self6 hself6 x4 u5 => ?_) F 0 u3
  rw [bX3_goByDocket_25]
  refine g_iload C 25 4 dX3_goByDocket_25 rfl ?_
  refine g_aload_n C 27 1 dX3_goByDocket_27 rfl ?_
  refine gfX_X0_hearings 0 (by decide) C 28 iX0 (List.mem_cons_of_mem _ (List.mem_append_right _ wgL_30_6.1)) dX3_goByDocket_28 ?_
  refine g_icmp_ge C 31 118 dX3_goByDocket_31 (by decide) ?_ ?_
  · skip
    exact g_vret C 118 dX3_goByDocket_118
  · skip
    refine g_aload_n C 34 1 dX3_goByDocket_34 rfl ?_
    refine gfX_X0_docketCase 0 (by decide) C 35 iX0 (List.mem_cons_of_mem _ (List.mem_append_right _ wgL_30_7.1)) dX3_goByDocket_35 ?_
    refine g_iload C 38 4 dX3_goByDocket_38 rfl ?_
    refine g_iald C 40 (10 + 11) 0 (wX_arr 11 (by decide)) rfl dX3_goByDocket_40 ?_
    refine g_istoreV C 41 (fun v7 => [(5, .int v7), (0, .ref (ad 7)), (1, .ref (ad 1)), (2, .ref (ad 6)), (3, .int p3), (4, .int x4)]) dX3_goByDocket_41 (by decide) (fun _ => rfl) (fun v7 => ?_)
    refine g_aload_n C 43 1 dX3_goByDocket_43 rfl ?_
    refine gfX_X3_verdict C 44 iX3 (List.mem_cons_of_mem _ (List.mem_append_right _ wgL_4_18.1)) dX3_goByDocket_44 ?_
    refine g_iload C 47 0 dX3_goByDocket_47 rfl ?_
    refine g_iald C 49 (10 + 59) 0 (wX_arr 59 (by decide)) rfl dX3_goByDocket_49 ?_
    refine g_jn0 112 ([(0, .ref (ad 7)), (1, .ref (ad 1)), (2, .ref (ad 6)), (3, .int p3), (4, .int x4)]) ([]) (fun u8 => ?_) (fun J112 hJ112 => ?_)
    · skip
      refine g_iinc C 112 4 [(4, .int (x4 + 1)), (0, .ref (ad 7)), (1, .ref (ad 1)), (2, .ref (ad 6)), (3, .int p3)] dX3_goByDocket_112 rfl rfl (by decide) rfl ?_
      refine g_goto C 115 25 dX3_goByDocket_115 (by decide) ?_
      exact g_sub _ [1, 2, 3, 4, 0] rfl (hself6 (x4 + 1) u8)
    · skip
      refine g_if_ne C 50 97 dX3_goByDocket_50 (by decide) ?_ ?_
      · skip
        refine g_aload_n C 97 1 dX3_goByDocket_97 rfl ?_
        refine gfX_X3_firstPassed C 98 iX3 (List.mem_cons_of_mem _ (List.mem_append_right _ wgL_4_19.1)) dX3_goByDocket_98 ?_
        refine g_bipush C 101 (-4) dX3_goByDocket_101 rfl ?_
        refine g_icmp_ne C 103 112 dX3_goByDocket_103 (by decide) ?_ ?_
        · skip
          exact g_sub _ [1, 2, 3, 4, 5] rfl (hJ112 u5)
        · skip
          refine g_aload_n C 106 1 dX3_goByDocket_106 rfl ?_
          refine g_iload C 107 5 dX3_goByDocket_107 rfl ?_
          refine pfX_X3_firstPassed C 109 iX3 (List.mem_cons_of_mem _ (List.mem_append_right _ wgL_4_19.1)) dX3_goByDocket_109 (fun u9 => ?_)
          exact g_sub _ [1, 2, 3, 4, 5] rfl (hJ112 u9)
      · skip
        refine g_aload_n C 53 3 dX3_goByDocket_53 rfl ?_
        refine g_aload_n C 54 2 dX3_goByDocket_54 rfl ?_
        refine g_iload C 55 0 dX3_goByDocket_55 rfl ?_
        refine g_aload_n C 57 2 dX3_goByDocket_57 rfl ?_
        refine gfX_X0_docketJudge 0 (by decide) C 58 iX0 (List.mem_cons_of_mem _ (List.mem_append_right _ wgL_30_8.1)) dX3_goByDocket_58 ?_
        refine g_iload C 61 5 dX3_goByDocket_61 rfl ?_
        refine g_iald C 63 (10 + 12) 0 (wX_arr 12 (by decide)) rfl dX3_goByDocket_63 ?_
        refine g_iload_n C 64 4 dX3_goByDocket_64 rfl ?_
        refine g_callVv (st := []) (As := [.ref (ad 1), .int v7, .int (u5.2 12 (Int32.toNatClampNeg x4)), .int p3]) C EX_ok EX_vm 65 6 4 (tX5_prepare F v7 (u5.2 12 (Int32.toNatClampNeg x4)) p3 u5) rfl gX3_goByDocket_X5_prepare rfl rfl rfl (by decide +kernel) ⟨Nat.le_of_ble_eq_true rfl, Nat.le_of_ble_eq_true rfl⟩ rfl rfl rfl (Nat.le_of_ble_eq_true rfl) dX3_goByDocket_65 (fun u10 => ?_)
        refine g_aload_n C 68 1 dX3_goByDocket_68 rfl ?_
        refine gfX_X3_verdict C 69 iX3 (List.mem_cons_of_mem _ (List.mem_append_right _ wgL_4_18.1)) dX3_goByDocket_69 ?_
        refine g_iload C 72 0 dX3_goByDocket_72 rfl ?_
        refine g_aload_n C 74 3 dX3_goByDocket_74 rfl ?_
        refine g_callVi (st := [.int v7, .ref (ad (10 + 59))]) (As := []) C EX_ok EX_vm 75 6 0 (tX5_verdictHeld F u10) rfl gX3_goByDocket_X5_verdictHeld rfl rfl rfl (by decide +kernel) ⟨Nat.le_of_ble_eq_true rfl, Nat.le_of_ble_eq_true rfl⟩ rfl rfl rfl (Nat.le_of_ble_eq_true rfl) dX3_goByDocket_75 (fun r12 u11 => ?_)
        refine g_iast C 78 (10 + 59) 0 59 (wX_arr 59 (by decide)) (wX_aset 59 (by decide)) rfl dX3_goByDocket_78 (fun u13 => ?_)
        refine g_aload_n C 79 1 dX3_goByDocket_79 rfl ?_
        refine g_dup C 80 dX3_goByDocket_80 rfl ?_
        refine gfX_X3_minutes C 81 iX3 (List.mem_cons_of_mem _ (List.mem_append_right _ wgL_4_20.1)) dX3_goByDocket_81 ?_
        refine g_aload_n C 84 3 dX3_goByDocket_84 rfl ?_
        refine gfX_X5_minute C 85 iX5 (List.mem_cons_of_mem _ (List.mem_append_right _ wgL_30_9.1)) dX3_goByDocket_85 ?_
        refine g_iconst C 88 1 dX3_goByDocket_88 rfl ?_
        refine g_iadd C 89 dX3_goByDocket_89 ?_
        refine g_iadd C 90 dX3_goByDocket_90 ?_
        refine pfX_X3_minutes C 91 iX3 (List.mem_cons_of_mem _ (List.mem_append_right _ wgL_4_20.1)) dX3_goByDocket_91 (fun u14 => ?_)
        refine g_goto C 94 112 dX3_goByDocket_94 (by decide) ?_
        exact g_sub _ [1, 2, 3, 4, 5] rfl (hJ112 u14)
def pX6_runs (F : Nat) (p1 : Int32) (u : St) : Option (Int32 × St) :=
  bd (pX6_isIn F (Int32.toInt64 p1) 0 4 u) (fun (r2 : Int32) (u1 : St) => if r2 = 0 then some ((-1), u1) else bd (pX3_goByDocket F 0 u1) (fun (_ : Unit) (u3 : St) => if p1 = 3 then some ((u3.1 27), u3) else if p1 = 4 then some ((u3.1 28), u3) else bd (pX6_bitsOf F 59 (u3.1 0) (p1 + 1) u3) (fun (r5 : Int32) (u4 : St) => some (r5, u4))))
set_option maxRecDepth 100000 in
set_option maxHeartbeats 4000000 in
theorem tX6_runs {l : Launch} {D : va_G} {cI cZ : ClassId} {ad : Nat → Nat} {tBURNS tFLAME_BOUNDS : Nat} {tS : Option Nat} {adK adV : Nat → Nat} (F : Nat) (p1 : Int32) (u : St) : CtI l D [(cI, .int), (cZ, .boolean)] (wX ad cI cZ) (EX tBURNS tFLAME_BOUNDS tS adK adV) yX6_runs wsX6_runs ({ frames := 4, cells := 0, slots := 0, locals := 87 } : Room) [.ref (ad 0), .int p1] u (pX6_runs F p1 u) := by
  refine ctI_of (own := RX6) (cc := cX6_runs) (n := 2) (ret := (some .int)) (by decide) rfl rfl (Nat.le_of_ble_eq_true rfl) (lv := [(0, .ref (ad 0)), (1, .int p1)]) rfl (fun C => ?_)
  have iX0 : ∀ w ∈ wsX00, w ∈ wsX6_runs := fun w h => List.mem_cons_of_mem _ (List.mem_append_right _ (inlX0 w h))
  have iX3 : ∀ w ∈ wsX30, w ∈ wsX6_runs := fun w h => List.mem_cons_of_mem _ (List.mem_append_right _ (inlX3 w h))
  have iX6 : ∀ w ∈ wsX60, w ∈ wsX6_runs := fun w h => List.mem_cons_of_mem _ (List.mem_append_right _ (inlX6 w h))
  rw [pX6_runs]
  refine g_iload_n C 0 1 dX6_runs_0 rfl ?_
  refine g_i2l C 1 dX6_runs_1 ?_
  refine g_iconst C 2 0 dX6_runs_2 rfl ?_
  refine g_iconst C 3 4 dX6_runs_3 rfl ?_
  refine g_callSi (st := []) (As := [.long (Int32.toInt64 p1), .int 0, .int 4]) C EX_ok EX_vm 4 3 (tX6_isIn F (Int32.toInt64 p1) 0 4 u) rfl gX6_runs_X6_isIn rfl rfl rfl (by decide +kernel) ⟨Nat.le_of_ble_eq_true rfl, Nat.le_of_ble_eq_true rfl⟩ rfl (Nat.le_of_ble_eq_true rfl) dX6_runs_4 (fun r2 u1 => ?_)
  refine g_if_ne C 7 12 dX6_runs_7 (by decide) ?_ ?_
  · skip
    refine g_aload_n C 12 0 dX6_runs_12 rfl ?_
    refine gfX_X6_round C 13 iX6 (List.mem_cons_of_mem _ (List.mem_append_right _ wgL_2_7.1)) dX6_runs_13 ?_
    refine g_aload_n C 16 0 dX6_runs_16 rfl ?_
    refine gfX_X6_court C 17 iX6 (List.mem_cons_of_mem _ (List.mem_append_right _ wgL_1_15.1)) dX6_runs_17 ?_
    refine g_aload_n C 20 0 dX6_runs_20 rfl ?_
    refine gfX_X6_trial C 21 iX6 (List.mem_cons_of_mem _ (List.mem_append_right _ wgL_2_3.1)) dX6_runs_21 ?_
    refine g_iconst C 24 0 dX6_runs_24 rfl ?_
    refine g_callVv (st := []) (As := [.ref (ad 1), .ref (ad 6), .int 0]) C EX_ok EX_vm 25 7 3 (tX3_goByDocket F 0 u1) rfl gX6_runs_X3_goByDocket rfl rfl rfl (by decide +kernel) ⟨Nat.le_of_ble_eq_true rfl, Nat.le_of_ble_eq_true rfl⟩ rfl rfl rfl (Nat.le_of_ble_eq_true rfl) dX6_runs_25 (fun u3 => ?_)
    refine g_iload_n C 28 1 dX6_runs_28 rfl ?_
    refine g_iconst C 29 3 dX6_runs_29 rfl ?_
    refine g_icmp_ne C 30 41 dX6_runs_30 (by decide) ?_ ?_
    · skip
      refine g_iload_n C 41 1 dX6_runs_41 rfl ?_
      refine g_iconst C 42 4 dX6_runs_42 rfl ?_
      refine g_icmp_ne C 43 56 dX6_runs_43 (by decide) ?_ ?_
      · skip
        refine g_aload_n C 56 0 dX6_runs_56 rfl ?_
        refine gfX_X6_round C 57 iX6 (List.mem_cons_of_mem _ (List.mem_append_right _ wgL_2_7.1)) dX6_runs_57 ?_
        refine gfX_X3_verdict C 60 iX3 (List.mem_cons_of_mem _ (List.mem_append_right _ wgL_30_0.1)) dX6_runs_60 ?_
        refine g_aload_n C 63 0 dX6_runs_63 rfl ?_
        refine gfX_X6_court C 64 iX6 (List.mem_cons_of_mem _ (List.mem_append_right _ wgL_1_15.1)) dX6_runs_64 ?_
        refine gfX_X0_cases 0 (by decide) C 67 iX0 (List.mem_cons_of_mem _ (List.mem_append_right _ wgL_18_5.1)) dX6_runs_67 ?_
        refine g_iload_n C 70 1 dX6_runs_70 rfl ?_
        refine g_iconst C 71 1 dX6_runs_71 rfl ?_
        refine g_iadd C 72 dX6_runs_72 ?_
        refine g_callSi (st := []) (As := [.ref (ad (10 + 59)), .int (u3.1 0), .int (p1 + 1)]) C EX_ok EX_vm 73 3 (tX6_bitsOf F 59 (by decide) (u3.1 0) (p1 + 1) u3) rfl gX6_runs_X6_bitsOf rfl rfl rfl (by decide +kernel) ⟨Nat.le_of_ble_eq_true rfl, Nat.le_of_ble_eq_true rfl⟩ rfl (Nat.le_of_ble_eq_true rfl) dX6_runs_73 (fun r5 u4 => ?_)
        exact g_iret C 76 dX6_runs_76
      · skip
        refine g_aload_n C 46 0 dX6_runs_46 rfl ?_
        refine gfX_X6_round C 47 iX6 (List.mem_cons_of_mem _ (List.mem_append_right _ wgL_2_7.1)) dX6_runs_47 ?_
        refine gfX_X3_minutes C 50 iX3 (List.mem_cons_of_mem _ (List.mem_append_right _ wgL_29_23.1)) dX6_runs_50 ?_
        refine g_goto C 53 76 dX6_runs_53 (by decide) ?_
        exact g_iret C 76 dX6_runs_76
    · skip
      refine g_aload_n C 33 0 dX6_runs_33 rfl ?_
      refine gfX_X6_round C 34 iX6 (List.mem_cons_of_mem _ (List.mem_append_right _ wgL_2_7.1)) dX6_runs_34 ?_
      refine gfX_X3_firstPassed C 37 iX3 (List.mem_cons_of_mem _ (List.mem_append_right _ wgL_29_22.1)) dX6_runs_37 ?_
      exact g_iret C 40 dX6_runs_40
  · skip
    refine g_iconst C 10 (-1) dX6_runs_10 rfl ?_
    exact g_iret C 11 dX6_runs_11
def pX6_ahead (F : Nat) (p1 : Int32) (u : St) : Option (Int32 × St) :=
  bd (pX0_hasCase F 0 (Int32.toInt64 p1) u) (fun (r2 : Int32) (u1 : St) => if r2 = 0 then some ((-1), u1) else bd (pX3_goByDocket F 0 u1) (fun (_ : Unit) (u3 : St) => gd (inb p1 4) (some ((u3.2 59 (Int32.toNatClampNeg p1)), u3))))
set_option maxRecDepth 100000 in
set_option maxHeartbeats 4000000 in
theorem tX6_ahead {l : Launch} {D : va_G} {cI cZ : ClassId} {ad : Nat → Nat} {tBURNS tFLAME_BOUNDS : Nat} {tS : Option Nat} {adK adV : Nat → Nat} (F : Nat) (p1 : Int32) (u : St) : CtI l D [(cI, .int), (cZ, .boolean)] (wX ad cI cZ) (EX tBURNS tFLAME_BOUNDS tS adK adV) yX6_ahead wsX6_ahead ({ frames := 4, cells := 0, slots := 0, locals := 87 } : Room) [.ref (ad 0), .int p1] u (pX6_ahead F p1 u) := by
  refine ctI_of (own := RX6) (cc := cX6_ahead) (n := 2) (ret := (some .int)) (by decide) rfl rfl (Nat.le_of_ble_eq_true rfl) (lv := [(0, .ref (ad 0)), (1, .int p1)]) rfl (fun C => ?_)
  have iX3 : ∀ w ∈ wsX30, w ∈ wsX6_ahead := fun w h => List.mem_cons_of_mem _ (List.mem_append_right _ (inlX3 w h))
  have iX6 : ∀ w ∈ wsX60, w ∈ wsX6_ahead := fun w h => List.mem_cons_of_mem _ (List.mem_append_right _ (inlX6 w h))
  rw [pX6_ahead]
  refine g_aload_n C 0 0 dX6_ahead_0 rfl ?_
  refine gfX_X6_court C 1 iX6 (List.mem_cons_of_mem _ (List.mem_append_right _ wgL_1_15.1)) dX6_ahead_1 ?_
  refine g_iload_n C 4 1 dX6_ahead_4 rfl ?_
  refine g_i2l C 5 dX6_ahead_5 ?_
  refine g_callVi (st := []) (As := [.long (Int32.toInt64 p1)]) C EX_ok EX_vm 6 1 1 (tX0_hasCase F 0 (by decide) (Int32.toInt64 p1) u) rfl gX6_ahead_X0_hasCase rfl rfl rfl (by decide +kernel) ⟨Nat.le_of_ble_eq_true rfl, Nat.le_of_ble_eq_true rfl⟩ (wX_X0 ad cI cZ _ 0 (by decide)) rfl rfl (Nat.le_of_ble_eq_true rfl) dX6_ahead_6 (fun r2 u1 => ?_)
  refine g_if_ne C 9 14 dX6_ahead_9 (by decide) ?_ ?_
  · skip
    refine g_aload_n C 14 0 dX6_ahead_14 rfl ?_
    refine gfX_X6_round C 15 iX6 (List.mem_cons_of_mem _ (List.mem_append_right _ wgL_2_7.1)) dX6_ahead_15 ?_
    refine g_aload_n C 18 0 dX6_ahead_18 rfl ?_
    refine gfX_X6_court C 19 iX6 (List.mem_cons_of_mem _ (List.mem_append_right _ wgL_1_15.1)) dX6_ahead_19 ?_
    refine g_aload_n C 22 0 dX6_ahead_22 rfl ?_
    refine gfX_X6_trial C 23 iX6 (List.mem_cons_of_mem _ (List.mem_append_right _ wgL_2_3.1)) dX6_ahead_23 ?_
    refine g_iconst C 26 0 dX6_ahead_26 rfl ?_
    refine g_callVv (st := []) (As := [.ref (ad 1), .ref (ad 6), .int 0]) C EX_ok EX_vm 27 7 3 (tX3_goByDocket F 0 u1) rfl gX6_ahead_X3_goByDocket rfl rfl rfl (by decide +kernel) ⟨Nat.le_of_ble_eq_true rfl, Nat.le_of_ble_eq_true rfl⟩ rfl rfl rfl (Nat.le_of_ble_eq_true rfl) dX6_ahead_27 (fun u3 => ?_)
    refine g_aload_n C 30 0 dX6_ahead_30 rfl ?_
    refine gfX_X6_round C 31 iX6 (List.mem_cons_of_mem _ (List.mem_append_right _ wgL_2_7.1)) dX6_ahead_31 ?_
    refine gfX_X3_verdict C 34 iX3 (List.mem_cons_of_mem _ (List.mem_append_right _ wgL_30_0.1)) dX6_ahead_34 ?_
    refine g_iload_n C 37 1 dX6_ahead_37 rfl ?_
    refine g_iald C 38 (10 + 59) 0 (wX_arr 59 (by decide)) rfl dX6_ahead_38 ?_
    exact g_iret C 39 dX6_ahead_39
  · skip
    refine g_iconst C 12 (-1) dX6_ahead_12 rfl ?_
    exact g_iret C 13 dX6_ahead_13
def bX6_judgesFor_5 (F : Nat) (p1 : Int32) (p2 : Int32) (self4 : Int32 → Int32 → St → Option (Int32 × St)) (x1 : Int32) (x2 : Int32) (u3 : St) : Option (Int32 × St) :=
  if (u3.1 1) ≤ x2 then some (x1, u3) else bd (pX6_verdictNow F p1 x2 u3) (fun (r6 : Int32) (u5 : St) => jn (fun (a7 : Int32) (u8 : St) => vl (x1 ||| a7) (fun v9 => (self4 v9 (x2 + 1) u8))) (fun (J39 : Int32 → St → Option (Int32 × St)) => if r6 = (p2 + 1) then (J39 (1 <<< (x2 &&& 31)) u5) else (J39 0 u5)))
def pX6_judgesFor (F : Nat) (p1 : Int32) (p2 : Int32) (u : St) : Option (Int32 × St) :=
  (lq2 (bX6_judgesFor_5 F p1 p2) F 0 0 u)
set_option maxRecDepth 100000 in
set_option maxHeartbeats 4000000 in
theorem tX6_judgesFor {l : Launch} {D : va_G} {cI cZ : ClassId} {ad : Nat → Nat} {tBURNS tFLAME_BOUNDS : Nat} {tS : Option Nat} {adK adV : Nat → Nat} (F : Nat) (p1 : Int32) (p2 : Int32) (u : St) : CtI l D [(cI, .int), (cZ, .boolean)] (wX ad cI cZ) (EX tBURNS tFLAME_BOUNDS tS adK adV) yX6_judgesFor wsX6_judgesFor ({ frames := 5, cells := 0, slots := 0, locals := 107 } : Room) [.ref (ad 0), .int p1, .int p2] u (pX6_judgesFor F p1 p2 u) := by
  refine ctI_of (own := RX6) (cc := cX6_judgesFor) (n := 5) (ret := (some .int)) (by decide) rfl rfl (Nat.le_of_ble_eq_true rfl) (lv := [(0, .ref (ad 0)), (1, .int p1), (2, .int p2)]) rfl (fun C => ?_)
  have iX0 : ∀ w ∈ wsX00, w ∈ wsX6_judgesFor := fun w h => List.mem_cons_of_mem _ (List.mem_append_right _ (inlX0 w h))
  have iX6 : ∀ w ∈ wsX60, w ∈ wsX6_judgesFor := fun w h => List.mem_cons_of_mem _ (List.mem_append_right _ (inlX6 w h))
  rw [pX6_judgesFor]
  refine g_iconst C 0 0 dX6_judgesFor_0 rfl ?_
  refine g_istore_n C 1 [(3, .int 0), (0, .ref (ad 0)), (1, .int p1), (2, .int p2)] dX6_judgesFor_1 (by decide) rfl ?_
  refine g_iconst C 2 0 dX6_judgesFor_2 rfl ?_
  refine g_istore C 3 [(4, .int 0), (3, .int 0), (0, .ref (ad 0)), (1, .int p1), (2, .int p2)] dX6_judgesFor_3 (by decide) rfl ?_
  refine g_sub _ [2, 3, 4, 1, 0] rfl ?_
  refine g_lq2 (fun (x1 : Int32) (x2 : Int32) => [(0, .ref (ad 0)), (1, .int p1), (2, .int p2), (3, .int x1), (4, .int x2)]) (fun self4 hself4 x1 x2 u3 => ?_) F 0 0 u
  rw [bX6_judgesFor_5]
  refine g_iload C 5 4 dX6_judgesFor_5 rfl ?_
  refine g_aload_n C 7 0 dX6_judgesFor_7 rfl ?_
  refine gfX_X6_court C 8 iX6 (List.mem_cons_of_mem _ (List.mem_append_right _ wgL_1_15.1)) dX6_judgesFor_8 ?_
  refine gfX_X0_judges 0 (by decide) C 11 iX0 (List.mem_cons_of_mem _ (List.mem_append_right _ wgL_18_6.1)) dX6_judgesFor_11 ?_
  refine g_icmp_ge C 14 47 dX6_judgesFor_14 (by decide) ?_ ?_
  · skip
    refine g_iload_n C 47 3 dX6_judgesFor_47 rfl ?_
    exact g_iret C 48 dX6_judgesFor_48
  · skip
    refine g_iload_n C 17 3 dX6_judgesFor_17 rfl ?_
    refine g_aload_n C 18 0 dX6_judgesFor_18 rfl ?_
    refine g_iload_n C 19 1 dX6_judgesFor_19 rfl ?_
    refine g_iload C 20 4 dX6_judgesFor_20 rfl ?_
    refine g_callVi (st := [.int x1]) (As := [.int p1, .int x2]) C EX_ok EX_vm 22 0 2 (tX6_verdictNow F p1 x2 u3) rfl gX6_judgesFor_X6_verdictNow rfl rfl rfl (by decide +kernel) ⟨Nat.le_of_ble_eq_true rfl, Nat.le_of_ble_eq_true rfl⟩ rfl rfl rfl (Nat.le_of_ble_eq_true rfl) dX6_judgesFor_22 (fun r6 u5 => ?_)
    refine g_iload_n C 25 2 dX6_judgesFor_25 rfl ?_
    refine g_iconst C 26 1 dX6_judgesFor_26 rfl ?_
    refine g_iadd C 27 dX6_judgesFor_27 ?_
    refine g_jn1 39 (fun (a7 : Int32) => [(0, .ref (ad 0)), (1, .int p1), (2, .int p2), (4, .int x2)]) (fun (a7 : Int32) => [.int a7, .int x1]) (fun a7 u8 => ?_) (fun J39 hJ39 => ?_)
    · skip
      refine g_ior C 39 dX6_judgesFor_39 ?_
      refine g_istore_nV C 40 (fun v9 => [(3, .int v9), (0, .ref (ad 0)), (1, .int p1), (2, .int p2), (4, .int x2)]) dX6_judgesFor_40 (by decide) (fun _ => rfl) (fun v9 => ?_)
      refine g_iinc C 41 4 [(4, .int (x2 + 1)), (3, .int v9), (0, .ref (ad 0)), (1, .int p1), (2, .int p2)] dX6_judgesFor_41 rfl rfl (by decide) rfl ?_
      refine g_goto C 44 5 dX6_judgesFor_44 (by decide) ?_
      exact g_sub _ [2, 3, 4, 1, 0] rfl (hself4 v9 (x2 + 1) u8)
    · skip
      refine g_icmp_ne C 28 38 dX6_judgesFor_28 (by decide) ?_ ?_
      · skip
        refine g_iconst C 38 0 dX6_judgesFor_38 rfl ?_
        exact g_sub _ [0, 1, 2, 4] rfl (hJ39 0 u5)
      · skip
        refine g_iconst C 31 1 dX6_judgesFor_31 rfl ?_
        refine g_iload C 32 4 dX6_judgesFor_32 rfl ?_
        refine g_ishl C 34 dX6_judgesFor_34 ?_
        refine g_goto C 35 39 dX6_judgesFor_35 (by decide) ?_
        exact g_sub _ [0, 1, 2, 4] rfl (hJ39 (1 <<< (x2 &&& 31)) u5)
def pX6_friends (F : Nat) (p1 : Int32) (p2 : Int32) (u : St) : Option (Int32 × St) :=
  bd (pX6_isFlame F p1 p2 u) (fun (r2 : Int32) (u1 : St) => if r2 = 0 then some ((-1), u1) else bd (pX6_judgesFor F p1 p2 u1) (fun (r4 : Int32) (u3 : St) => some (r4, u3)))
set_option maxRecDepth 100000 in
set_option maxHeartbeats 4000000 in
theorem tX6_friends {l : Launch} {D : va_G} {cI cZ : ClassId} {ad : Nat → Nat} {tBURNS tFLAME_BOUNDS : Nat} {tS : Option Nat} {adK adV : Nat → Nat} (F : Nat) (p1 : Int32) (p2 : Int32) (u : St) : CtI l D [(cI, .int), (cZ, .boolean)] (wX ad cI cZ) (EX tBURNS tFLAME_BOUNDS tS adK adV) yX6_friends wsX6_friends ({ frames := 6, cells := 0, slots := 0, locals := 131 } : Room) [.ref (ad 0), .int p1, .int p2] u (pX6_friends F p1 p2 u) := by
  refine ctI_of (own := RX6) (cc := cX6_friends) (n := 3) (ret := (some .int)) (by decide) rfl rfl (Nat.le_of_ble_eq_true rfl) (lv := [(0, .ref (ad 0)), (1, .int p1), (2, .int p2)]) rfl (fun C => ?_)
  rw [pX6_friends]
  refine g_aload_n C 0 0 dX6_friends_0 rfl ?_
  refine g_iload_n C 1 1 dX6_friends_1 rfl ?_
  refine g_iload_n C 2 2 dX6_friends_2 rfl ?_
  refine g_callVi (st := []) (As := [.int p1, .int p2]) C EX_ok EX_vm 3 0 2 (tX6_isFlame F p1 p2 u) rfl gX6_friends_X6_isFlame rfl rfl rfl (by decide +kernel) ⟨Nat.le_of_ble_eq_true rfl, Nat.le_of_ble_eq_true rfl⟩ rfl rfl rfl (Nat.le_of_ble_eq_true rfl) dX6_friends_3 (fun r2 u1 => ?_)
  refine g_if_eq C 6 18 dX6_friends_6 (by decide) ?_ ?_
  · skip
    refine g_iconst C 18 (-1) dX6_friends_18 rfl ?_
    exact g_iret C 19 dX6_friends_19
  · skip
    refine g_aload_n C 9 0 dX6_friends_9 rfl ?_
    refine g_iload_n C 10 1 dX6_friends_10 rfl ?_
    refine g_iload_n C 11 2 dX6_friends_11 rfl ?_
    refine g_callVi (st := []) (As := [.int p1, .int p2]) C EX_ok EX_vm 12 0 2 (tX6_judgesFor F p1 p2 u1) rfl gX6_friends_X6_judgesFor rfl rfl rfl (by decide +kernel) ⟨Nat.le_of_ble_eq_true rfl, Nat.le_of_ble_eq_true rfl⟩ rfl rfl rfl (Nat.le_of_ble_eq_true rfl) dX6_friends_12 (fun r4 u3 => ?_)
    refine g_goto C 15 19 dX6_friends_15 (by decide) ?_
    exact g_iret C 19 dX6_friends_19
def pX5_change (F : Nat) (p1 : Int32) (p2 : Int32) (p3 : Int32) (u : St) : Option (Unit × St) :=
  if p2 = 0 then gd (inb p1 2) (vl (sta u 55 p1 p3) (fun (u3 : St) => some ((), u3))) else if p2 = 1 then gd (inb p1 2) (vl (sta u 56 p1 p3) (fun (u2 : St) => some ((), u2))) else gd (inb p1 2) (vl (sta u 57 p1 p3) (fun (u1 : St) => some ((), u1)))
set_option maxRecDepth 100000 in
set_option maxHeartbeats 4000000 in
theorem tX5_change {l : Launch} {D : va_G} {cI cZ : ClassId} {ad : Nat → Nat} {tBURNS tFLAME_BOUNDS : Nat} {tS : Option Nat} {adK adV : Nat → Nat} (F : Nat) (p1 : Int32) (p2 : Int32) (p3 : Int32) (u : St) : CtV l D [(cI, .int), (cZ, .boolean)] (wX ad cI cZ) (EX tBURNS tFLAME_BOUNDS tS adK adV) yX5_change wsX5_change ({ frames := 0, cells := 0, slots := 0, locals := 0 } : Room) [.ref (ad 6), .int p1, .int p2, .int p3] u (pX5_change F p1 p2 p3 u) := by
  refine ctV_of (own := RX5) (cc := cX5_change) (n := 4) (ret := none) (by decide) rfl rfl (Nat.le_of_ble_eq_true rfl) (lv := [(0, .ref (ad 6)), (1, .int p1), (2, .int p2), (3, .int p3)]) rfl (fun C => ?_)
  have iX5 : ∀ w ∈ wsX50, w ∈ wsX5_change := fun w h => List.mem_cons_of_mem _ (List.mem_append_right _ (inlX5 w h))
  rw [pX5_change]
  refine g_iload_n C 0 2 dX5_change_0 rfl ?_
  refine g_if_ne C 1 14 dX5_change_1 (by decide) ?_ ?_
  · skip
    refine g_iload_n C 14 2 dX5_change_14 rfl ?_
    refine g_iconst C 15 1 dX5_change_15 rfl ?_
    refine g_icmp_ne C 16 29 dX5_change_16 (by decide) ?_ ?_
    · skip
      refine g_aload_n C 29 0 dX5_change_29 rfl ?_
      refine gfX_X5_guard C 30 iX5 (List.mem_cons_of_mem _ (List.mem_append_right _ wgL_4_10.1)) dX5_change_30 ?_
      refine g_iload_n C 33 1 dX5_change_33 rfl ?_
      refine g_iload_n C 34 3 dX5_change_34 rfl ?_
      refine g_iast C 35 (10 + 57) 0 57 (wX_arr 57 (by decide)) (wX_aset 57 (by decide)) rfl dX5_change_35 (fun u1 => ?_)
      exact g_vret C 36 dX5_change_36
    · skip
      refine g_aload_n C 19 0 dX5_change_19 rfl ?_
      refine gfX_X5_length C 20 iX5 (List.mem_cons_of_mem _ (List.mem_append_right _ wgL_4_9.1)) dX5_change_20 ?_
      refine g_iload_n C 23 1 dX5_change_23 rfl ?_
      refine g_iload_n C 24 3 dX5_change_24 rfl ?_
      refine g_iast C 25 (10 + 56) 0 56 (wX_arr 56 (by decide)) (wX_aset 56 (by decide)) rfl dX5_change_25 (fun u2 => ?_)
      refine g_goto C 26 36 dX5_change_26 (by decide) ?_
      exact g_vret C 36 dX5_change_36
  · skip
    refine g_aload_n C 4 0 dX5_change_4 rfl ?_
    refine gfX_X5_kind C 5 iX5 (List.mem_cons_of_mem _ (List.mem_append_right _ wgL_4_8.1)) dX5_change_5 ?_
    refine g_iload_n C 8 1 dX5_change_8 rfl ?_
    refine g_iload_n C 9 3 dX5_change_9 rfl ?_
    refine g_iast C 10 (10 + 55) 0 55 (wX_arr 55 (by decide)) (wX_aset 55 (by decide)) rfl dX5_change_10 (fun u3 => ?_)
    refine g_goto C 11 36 dX5_change_11 (by decide) ?_
    exact g_vret C 36 dX5_change_36
def bX6_firstThatWins_25 (F : Nat) (p1 : Int32) (p2 : Int32) (p3 : Int32) (p4 : Int32) (self7 : Int32 → St → Option (Int32 × St)) (x5 : Int32) (u6 : St) : Option (Int32 × St) :=
  gd (inb p4 3) (if (tabFLAME_BOUNDS (Int32.toNatClampNeg p4)) < x5 then some ((-4), u6) else bd (pX6_prepare F p1 p3 0 u6) (fun (_ : Unit) (u8 : St) => bd (pX5_change F p2 p4 x5 u8) (fun (_ : Unit) (u9 : St) => bd (pX5_verdictHeld F u9) (fun (r11 : Int32) (u10 : St) => if r11 = (p2 + 1) then some (x5, u10) else (self7 (x5 + 1) u10)))))
def pX6_firstThatWins (F : Nat) (p1 : Int32) (p2 : Int32) (p3 : Int32) (p4 : Int32) (u : St) : Option (Int32 × St) :=
  bd (pX6_isFlame F p1 p2 u) (fun (r2 : Int32) (u1 : St) => if r2 = 0 then some ((-1), u1) else bd (pX0_hasJudge F 0 p3 u1) (fun (r4 : Int32) (u3 : St) => if r4 = 0 then some ((-1), u3) else (lq1 (bX6_firstThatWins_25 F p1 p2 p3 p4) F 0 u3)))
set_option maxRecDepth 100000 in
set_option maxHeartbeats 4000000 in
theorem tX6_firstThatWins {l : Launch} {D : va_G} {cI cZ : ClassId} {ad : Nat → Nat} {tBURNS tFLAME_BOUNDS : Nat} {tS : Option Nat} {adK adV : Nat → Nat} (F : Nat) (p1 : Int32) (p2 : Int32) (p3 : Int32) (p4 : Int32) (u : St) : CtI l D [(cI, .int), (cZ, .boolean)] (wX ad cI cZ) (EX tBURNS tFLAME_BOUNDS tS adK adV) yX6_firstThatWins wsX6_firstThatWins ({ frames := 4, cells := 0, slots := 0, locals := 85 } : Room) [.ref (ad 0), .int p1, .int p2, .int p3, .int p4] u (pX6_firstThatWins F p1 p2 p3 p4 u) := by
  refine ctI_of (own := RX6) (cc := cX6_firstThatWins) (n := 6) (ret := (some .int)) (by decide) rfl rfl (Nat.le_of_ble_eq_true rfl) (lv := [(0, .ref (ad 0)), (1, .int p1), (2, .int p2), (3, .int p3), (4, .int p4)]) rfl (fun C => ?_)
  have iX6 : ∀ w ∈ wsX60, w ∈ wsX6_firstThatWins := fun w h => List.mem_cons_of_mem _ (List.mem_append_right _ (inlX6 w h))
  rw [pX6_firstThatWins]
  refine g_aload_n C 0 0 dX6_firstThatWins_0 rfl ?_
  refine g_iload_n C 1 1 dX6_firstThatWins_1 rfl ?_
  refine g_iload_n C 2 2 dX6_firstThatWins_2 rfl ?_
  refine g_callVi (st := []) (As := [.int p1, .int p2]) C EX_ok EX_vm 3 0 2 (tX6_isFlame F p1 p2 u) rfl gX6_firstThatWins_X6_isFlame rfl rfl rfl (by decide +kernel) ⟨Nat.le_of_ble_eq_true rfl, Nat.le_of_ble_eq_true rfl⟩ rfl rfl rfl (Nat.le_of_ble_eq_true rfl) dX6_firstThatWins_3 (fun r2 u1 => ?_)
  refine g_if_eq C 6 20 dX6_firstThatWins_6 (by decide) ?_ ?_
  · skip
    refine g_iconst C 20 (-1) dX6_firstThatWins_20 rfl ?_
    exact g_iret C 21 dX6_firstThatWins_21
  · skip
    refine g_aload_n C 9 0 dX6_firstThatWins_9 rfl ?_
    refine gfX_X6_court C 10 iX6 (List.mem_cons_of_mem _ (List.mem_append_right _ wgL_1_15.1)) dX6_firstThatWins_10 ?_
    refine g_iload_n C 13 3 dX6_firstThatWins_13 rfl ?_
    refine g_callVi (st := []) (As := [.int p3]) C EX_ok EX_vm 14 1 1 (tX0_hasJudge F 0 (by decide) p3 u1) rfl gX6_firstThatWins_X0_hasJudge rfl rfl rfl (by decide +kernel) ⟨Nat.le_of_ble_eq_true rfl, Nat.le_of_ble_eq_true rfl⟩ (wX_X0 ad cI cZ _ 0 (by decide)) rfl rfl (Nat.le_of_ble_eq_true rfl) dX6_firstThatWins_14 (fun r4 u3 => ?_)
    refine g_if_ne C 17 22 dX6_firstThatWins_17 (by decide) ?_ ?_
    · skip
      refine g_iconst C 22 0 dX6_firstThatWins_22 rfl ?_
      refine g_istore C 23 [(5, .int 0), (0, .ref (ad 0)), (1, .int p1), (2, .int p2), (3, .int p3), (4, .int p4)] dX6_firstThatWins_23 (by decide) rfl ?_
      refine g_sub _ [1, 2, 3, 4, 5, 0] rfl ?_
      refine g_lq1 (fun (x5 : Int32) => [(0, .ref (ad 0)), (1, .int p1), (2, .int p2), (3, .int p3), (4, .int p4), (5, .int x5)]) (fun self7 hself7 x5 u6 => ?_) F 0 u3
      rw [bX6_firstThatWins_25]
      refine g_iload C 25 5 dX6_firstThatWins_25 rfl ?_
      refine g_gets C 27 (EX_zFLAME_BOUNDS C.2.2.2.2.2.2.2.2.1) (by decide +kernel) dX6_firstThatWins_27 ?_
      refine g_iload C 30 4 dX6_firstThatWins_30 rfl ?_
      refine g_ti C 32 (EX_tFLAME_BOUNDS C.2.2.2.2.2.2.2.2.1) dX6_firstThatWins_32 ?_
      refine g_icmp_gt C 33 77 dX6_firstThatWins_33 (by decide) ?_ ?_
      · skip
        refine g_bipush C 77 (-4) dX6_firstThatWins_77 rfl ?_
        exact g_iret C 79 dX6_firstThatWins_79
      · skip
        refine g_aload_n C 36 0 dX6_firstThatWins_36 rfl ?_
        refine g_iload_n C 37 1 dX6_firstThatWins_37 rfl ?_
        refine g_iload_n C 38 3 dX6_firstThatWins_38 rfl ?_
        refine g_iconst C 39 0 dX6_firstThatWins_39 rfl ?_
        refine g_callVv (st := []) (As := [.int p1, .int p3, .int 0]) C EX_ok EX_vm 40 0 3 (tX6_prepare F p1 p3 0 u6) rfl gX6_firstThatWins_X6_prepare rfl rfl rfl (by decide +kernel) ⟨Nat.le_of_ble_eq_true rfl, Nat.le_of_ble_eq_true rfl⟩ rfl rfl rfl (Nat.le_of_ble_eq_true rfl) dX6_firstThatWins_40 (fun u8 => ?_)
        refine g_aload_n C 43 0 dX6_firstThatWins_43 rfl ?_
        refine gfX_X6_trial C 44 iX6 (List.mem_cons_of_mem _ (List.mem_append_right _ wgL_2_3.1)) dX6_firstThatWins_44 ?_
        refine g_iload_n C 47 2 dX6_firstThatWins_47 rfl ?_
        refine g_iload C 48 4 dX6_firstThatWins_48 rfl ?_
        refine g_iload C 50 5 dX6_firstThatWins_50 rfl ?_
        refine g_callVv (st := []) (As := [.int p2, .int p4, .int x5]) C EX_ok EX_vm 52 6 3 (tX5_change F p2 p4 x5 u8) rfl gX6_firstThatWins_X5_change rfl rfl rfl (by decide +kernel) ⟨Nat.le_of_ble_eq_true rfl, Nat.le_of_ble_eq_true rfl⟩ rfl rfl rfl (Nat.le_of_ble_eq_true rfl) dX6_firstThatWins_52 (fun u9 => ?_)
        refine g_aload_n C 55 0 dX6_firstThatWins_55 rfl ?_
        refine gfX_X6_trial C 56 iX6 (List.mem_cons_of_mem _ (List.mem_append_right _ wgL_2_3.1)) dX6_firstThatWins_56 ?_
        refine g_callVi (st := []) (As := []) C EX_ok EX_vm 59 6 0 (tX5_verdictHeld F u9) rfl gX6_firstThatWins_X5_verdictHeld rfl rfl rfl (by decide +kernel) ⟨Nat.le_of_ble_eq_true rfl, Nat.le_of_ble_eq_true rfl⟩ rfl rfl rfl (Nat.le_of_ble_eq_true rfl) dX6_firstThatWins_59 (fun r11 u10 => ?_)
        refine g_iload_n C 62 2 dX6_firstThatWins_62 rfl ?_
        refine g_iconst C 63 1 dX6_firstThatWins_63 rfl ?_
        refine g_iadd C 64 dX6_firstThatWins_64 ?_
        refine g_icmp_ne C 65 71 dX6_firstThatWins_65 (by decide) ?_ ?_
        · skip
          refine g_iinc C 71 5 [(5, .int (x5 + 1)), (0, .ref (ad 0)), (1, .int p1), (2, .int p2), (3, .int p3), (4, .int p4)] dX6_firstThatWins_71 rfl rfl (by decide) rfl ?_
          refine g_goto C 74 25 dX6_firstThatWins_74 (by decide) ?_
          exact g_sub _ [1, 2, 3, 4, 5, 0] rfl (hself7 (x5 + 1) u10)
        · skip
          refine g_iload C 68 5 dX6_firstThatWins_68 rfl ?_
          exact g_iret C 70 dX6_firstThatWins_70
    · skip
      refine g_iconst C 20 (-1) dX6_firstThatWins_20 rfl ?_
      exact g_iret C 21 dX6_firstThatWins_21
def pX6_wax (F : Nat) (p1 : Int32) (p2 : Int32) (p3 : Int32) (u : St) : Option (Int32 × St) :=
  bd (pX6_firstThatWins F p1 p2 p3 0 u) (fun (r2 : Int32) (u1 : St) => some (r2, u1))
set_option maxRecDepth 100000 in
set_option maxHeartbeats 4000000 in
theorem tX6_wax {l : Launch} {D : va_G} {cI cZ : ClassId} {ad : Nat → Nat} {tBURNS tFLAME_BOUNDS : Nat} {tS : Option Nat} {adK adV : Nat → Nat} (F : Nat) (p1 : Int32) (p2 : Int32) (p3 : Int32) (u : St) : CtI l D [(cI, .int), (cZ, .boolean)] (wX ad cI cZ) (EX tBURNS tFLAME_BOUNDS tS adK adV) yX6_wax wsX6_wax ({ frames := 5, cells := 0, slots := 0, locals := 110 } : Room) [.ref (ad 0), .int p1, .int p2, .int p3] u (pX6_wax F p1 p2 p3 u) := by
  refine ctI_of (own := RX6) (cc := cX6_wax) (n := 4) (ret := (some .int)) (by decide) rfl rfl (Nat.le_of_ble_eq_true rfl) (lv := [(0, .ref (ad 0)), (1, .int p1), (2, .int p2), (3, .int p3)]) rfl (fun C => ?_)
  rw [pX6_wax]
  refine g_aload_n C 0 0 dX6_wax_0 rfl ?_
  refine g_iload_n C 1 1 dX6_wax_1 rfl ?_
  refine g_iload_n C 2 2 dX6_wax_2 rfl ?_
  refine g_iload_n C 3 3 dX6_wax_3 rfl ?_
  refine g_iconst C 4 0 dX6_wax_4 rfl ?_
  refine g_callVi (st := []) (As := [.int p1, .int p2, .int p3, .int 0]) C EX_ok EX_vm 5 0 4 (tX6_firstThatWins F p1 p2 p3 0 u) rfl gX6_wax_X6_firstThatWins rfl rfl rfl (by decide +kernel) ⟨Nat.le_of_ble_eq_true rfl, Nat.le_of_ble_eq_true rfl⟩ rfl rfl rfl (Nat.le_of_ble_eq_true rfl) dX6_wax_5 (fun r2 u1 => ?_)
  exact g_iret C 8 dX6_wax_8
def pX6_least (F : Nat) (p1 : Int32) (p2 : Int32) (p3 : Int32) (u : St) : Option (Int32 × St) :=
  bd (pX6_firstThatWins F p1 p2 p3 1 u) (fun (r2 : Int32) (u1 : St) => some (r2, u1))
set_option maxRecDepth 100000 in
set_option maxHeartbeats 4000000 in
theorem tX6_least {l : Launch} {D : va_G} {cI cZ : ClassId} {ad : Nat → Nat} {tBURNS tFLAME_BOUNDS : Nat} {tS : Option Nat} {adK adV : Nat → Nat} (F : Nat) (p1 : Int32) (p2 : Int32) (p3 : Int32) (u : St) : CtI l D [(cI, .int), (cZ, .boolean)] (wX ad cI cZ) (EX tBURNS tFLAME_BOUNDS tS adK adV) yX6_least wsX6_least ({ frames := 5, cells := 0, slots := 0, locals := 110 } : Room) [.ref (ad 0), .int p1, .int p2, .int p3] u (pX6_least F p1 p2 p3 u) := by
  refine ctI_of (own := RX6) (cc := cX6_least) (n := 4) (ret := (some .int)) (by decide) rfl rfl (Nat.le_of_ble_eq_true rfl) (lv := [(0, .ref (ad 0)), (1, .int p1), (2, .int p2), (3, .int p3)]) rfl (fun C => ?_)
  rw [pX6_least]
  refine g_aload_n C 0 0 dX6_least_0 rfl ?_
  refine g_iload_n C 1 1 dX6_least_1 rfl ?_
  refine g_iload_n C 2 2 dX6_least_2 rfl ?_
  refine g_iload_n C 3 3 dX6_least_3 rfl ?_
  refine g_iconst C 4 1 dX6_least_4 rfl ?_
  refine g_callVi (st := []) (As := [.int p1, .int p2, .int p3, .int 1]) C EX_ok EX_vm 5 0 4 (tX6_firstThatWins F p1 p2 p3 1 u) rfl gX6_least_X6_firstThatWins rfl rfl rfl (by decide +kernel) ⟨Nat.le_of_ble_eq_true rfl, Nat.le_of_ble_eq_true rfl⟩ rfl rfl rfl (Nat.le_of_ble_eq_true rfl) dX6_least_5 (fun r2 u1 => ?_)
  exact g_iret C 8 dX6_least_8
def pX6_hand (F : Nat) (p1 : Int32) (p2 : Int32) (p3 : Int32) (u : St) : Option (Int32 × St) :=
  bd (pX6_firstThatWins F p1 p2 p3 2 u) (fun (r2 : Int32) (u1 : St) => some (r2, u1))
set_option maxRecDepth 100000 in
set_option maxHeartbeats 4000000 in
theorem tX6_hand {l : Launch} {D : va_G} {cI cZ : ClassId} {ad : Nat → Nat} {tBURNS tFLAME_BOUNDS : Nat} {tS : Option Nat} {adK adV : Nat → Nat} (F : Nat) (p1 : Int32) (p2 : Int32) (p3 : Int32) (u : St) : CtI l D [(cI, .int), (cZ, .boolean)] (wX ad cI cZ) (EX tBURNS tFLAME_BOUNDS tS adK adV) yX6_hand wsX6_hand ({ frames := 5, cells := 0, slots := 0, locals := 110 } : Room) [.ref (ad 0), .int p1, .int p2, .int p3] u (pX6_hand F p1 p2 p3 u) := by
  refine ctI_of (own := RX6) (cc := cX6_hand) (n := 4) (ret := (some .int)) (by decide) rfl rfl (Nat.le_of_ble_eq_true rfl) (lv := [(0, .ref (ad 0)), (1, .int p1), (2, .int p2), (3, .int p3)]) rfl (fun C => ?_)
  rw [pX6_hand]
  refine g_aload_n C 0 0 dX6_hand_0 rfl ?_
  refine g_iload_n C 1 1 dX6_hand_1 rfl ?_
  refine g_iload_n C 2 2 dX6_hand_2 rfl ?_
  refine g_iload_n C 3 3 dX6_hand_3 rfl ?_
  refine g_iconst C 4 2 dX6_hand_4 rfl ?_
  refine g_callVi (st := []) (As := [.int p1, .int p2, .int p3, .int 2]) C EX_ok EX_vm 5 0 4 (tX6_firstThatWins F p1 p2 p3 2 u) rfl gX6_hand_X6_firstThatWins rfl rfl rfl (by decide +kernel) ⟨Nat.le_of_ble_eq_true rfl, Nat.le_of_ble_eq_true rfl⟩ rfl rfl rfl (Nat.le_of_ble_eq_true rfl) dX6_hand_5 (fun r2 u1 => ?_)
  exact g_iret C 8 dX6_hand_8
def bX6_turn_47 (F : Nat) (p1 : Int32) (p2 : Int32) (p3 : Int32) (r8 : Int32) (self11 : Int32 → St → Option (Int32 × St)) (x9 : Int32) (u10 : St) : Option (Int32 × St) :=
  if 20 < x9 then some ((-4), u10) else bd (pX6_prepare F p1 p2 0 u10) (fun (_ : Unit) (u12 : St) => bd (pX5_blows F x9 p3 u12) (fun (_ : Unit) (u13 : St) => bd (pX5_verdictHeld F u13) (fun (r15 : Int32) (u14 : St) => if r15 = r8 then (self11 (x9 + 1) u14) else some (x9, u14))))
def pX6_turn (F : Nat) (p1 : Int32) (p2 : Int32) (p3 : Int32) (u : St) : Option (Int32 × St) :=
  bd (pX0_hasCase F 0 (Int32.toInt64 p1) u) (fun (r2 : Int32) (u1 : St) => if r2 = 0 then some ((-1), u1) else bd (pX0_hasJudge F 0 p2 u1) (fun (r4 : Int32) (u3 : St) => if r4 = 0 then some ((-1), u3) else bd (pX6_isIn F (Int32.toInt64 p3) 1 9 u3) (fun (r6 : Int32) (u5 : St) => if r6 = 0 then some ((-1), u5) else bd (pX6_verdictNow F p1 p2 u5) (fun (r8 : Int32) (u7 : St) => (lq1 (bX6_turn_47 F p1 p2 p3 r8) F 0 u7)))))
set_option maxRecDepth 100000 in
set_option maxHeartbeats 4000000 in
theorem tX6_turn {l : Launch} {D : va_G} {cI cZ : ClassId} {ad : Nat → Nat} {tBURNS tFLAME_BOUNDS : Nat} {tS : Option Nat} {adK adV : Nat → Nat} (F : Nat) (p1 : Int32) (p2 : Int32) (p3 : Int32) (u : St) : CtI l D [(cI, .int), (cZ, .boolean)] (wX ad cI cZ) (EX tBURNS tFLAME_BOUNDS tS adK adV) yX6_turn wsX6_turn ({ frames := 5, cells := 0, slots := 0, locals := 107 } : Room) [.ref (ad 0), .int p1, .int p2, .int p3] u (pX6_turn F p1 p2 p3 u) := by
  refine ctI_of (own := RX6) (cc := cX6_turn) (n := 6) (ret := (some .int)) (by decide) rfl rfl (Nat.le_of_ble_eq_true rfl) (lv := [(0, .ref (ad 0)), (1, .int p1), (2, .int p2), (3, .int p3)]) rfl (fun C => ?_)
  have iX6 : ∀ w ∈ wsX60, w ∈ wsX6_turn := fun w h => List.mem_cons_of_mem _ (List.mem_append_right _ (inlX6 w h))
  rw [pX6_turn]
  refine g_aload_n C 0 0 dX6_turn_0 rfl ?_
  refine gfX_X6_court C 1 iX6 (List.mem_cons_of_mem _ (List.mem_append_right _ wgL_1_15.1)) dX6_turn_1 ?_
  refine g_iload_n C 4 1 dX6_turn_4 rfl ?_
  refine g_i2l C 5 dX6_turn_5 ?_
  refine g_callVi (st := []) (As := [.long (Int32.toInt64 p1)]) C EX_ok EX_vm 6 1 1 (tX0_hasCase F 0 (by decide) (Int32.toInt64 p1) u) rfl gX6_turn_X0_hasCase rfl rfl rfl (by decide +kernel) ⟨Nat.le_of_ble_eq_true rfl, Nat.le_of_ble_eq_true rfl⟩ (wX_X0 ad cI cZ _ 0 (by decide)) rfl rfl (Nat.le_of_ble_eq_true rfl) dX6_turn_6 (fun r2 u1 => ?_)
  refine g_if_eq C 9 34 dX6_turn_9 (by decide) ?_ ?_
  · skip
    refine g_iconst C 34 (-1) dX6_turn_34 rfl ?_
    exact g_iret C 35 dX6_turn_35
  · skip
    refine g_aload_n C 12 0 dX6_turn_12 rfl ?_
    refine gfX_X6_court C 13 iX6 (List.mem_cons_of_mem _ (List.mem_append_right _ wgL_1_15.1)) dX6_turn_13 ?_
    refine g_iload_n C 16 2 dX6_turn_16 rfl ?_
    refine g_callVi (st := []) (As := [.int p2]) C EX_ok EX_vm 17 1 1 (tX0_hasJudge F 0 (by decide) p2 u1) rfl gX6_turn_X0_hasJudge rfl rfl rfl (by decide +kernel) ⟨Nat.le_of_ble_eq_true rfl, Nat.le_of_ble_eq_true rfl⟩ (wX_X0 ad cI cZ _ 0 (by decide)) rfl rfl (Nat.le_of_ble_eq_true rfl) dX6_turn_17 (fun r4 u3 => ?_)
    refine g_if_eq C 20 34 dX6_turn_20 (by decide) ?_ ?_
    · skip
      refine g_iconst C 34 (-1) dX6_turn_34 rfl ?_
      exact g_iret C 35 dX6_turn_35
    · skip
      refine g_iload_n C 23 3 dX6_turn_23 rfl ?_
      refine g_i2l C 24 dX6_turn_24 ?_
      refine g_iconst C 25 1 dX6_turn_25 rfl ?_
      refine g_bipush C 26 9 dX6_turn_26 rfl ?_
      refine g_callSi (st := []) (As := [.long (Int32.toInt64 p3), .int 1, .int 9]) C EX_ok EX_vm 28 3 (tX6_isIn F (Int32.toInt64 p3) 1 9 u3) rfl gX6_turn_X6_isIn rfl rfl rfl (by decide +kernel) ⟨Nat.le_of_ble_eq_true rfl, Nat.le_of_ble_eq_true rfl⟩ rfl (Nat.le_of_ble_eq_true rfl) dX6_turn_28 (fun r6 u5 => ?_)
      refine g_if_ne C 31 36 dX6_turn_31 (by decide) ?_ ?_
      · skip
        refine g_aload_n C 36 0 dX6_turn_36 rfl ?_
        refine g_iload_n C 37 1 dX6_turn_37 rfl ?_
        refine g_iload_n C 38 2 dX6_turn_38 rfl ?_
        refine g_callVi (st := []) (As := [.int p1, .int p2]) C EX_ok EX_vm 39 0 2 (tX6_verdictNow F p1 p2 u5) rfl gX6_turn_X6_verdictNow rfl rfl rfl (by decide +kernel) ⟨Nat.le_of_ble_eq_true rfl, Nat.le_of_ble_eq_true rfl⟩ rfl rfl rfl (Nat.le_of_ble_eq_true rfl) dX6_turn_39 (fun r8 u7 => ?_)
        refine g_istore C 42 [(4, .int r8), (0, .ref (ad 0)), (1, .int p1), (2, .int p2), (3, .int p3)] dX6_turn_42 (by decide) rfl ?_
        refine g_iconst C 44 0 dX6_turn_44 rfl ?_
        refine g_istore C 45 [(5, .int 0), (4, .int r8), (0, .ref (ad 0)), (1, .int p1), (2, .int p2), (3, .int p3)] dX6_turn_45 (by decide) rfl ?_
        refine g_sub _ [2, 3, 4, 5, 1, 0] rfl ?_
        refine g_lq1 (fun (x9 : Int32) => [(0, .ref (ad 0)), (1, .int p1), (2, .int p2), (3, .int p3), (4, .int r8), (5, .int x9)]) (fun self11 hself11 x9 u10 => ?_) F 0 u7
        rw [bX6_turn_47]
        refine g_iload C 47 5 dX6_turn_47 rfl ?_
        refine g_bipush C 49 20 dX6_turn_49 rfl ?_
        refine g_icmp_gt C 51 92 dX6_turn_51 (by decide) ?_ ?_
        · skip
          refine g_bipush C 92 (-4) dX6_turn_92 rfl ?_
          exact g_iret C 94 dX6_turn_94
        · skip
          refine g_aload_n C 54 0 dX6_turn_54 rfl ?_
          refine g_iload_n C 55 1 dX6_turn_55 rfl ?_
          refine g_iload_n C 56 2 dX6_turn_56 rfl ?_
          refine g_iconst C 57 0 dX6_turn_57 rfl ?_
          refine g_callVv (st := []) (As := [.int p1, .int p2, .int 0]) C EX_ok EX_vm 58 0 3 (tX6_prepare F p1 p2 0 u10) rfl gX6_turn_X6_prepare rfl rfl rfl (by decide +kernel) ⟨Nat.le_of_ble_eq_true rfl, Nat.le_of_ble_eq_true rfl⟩ rfl rfl rfl (Nat.le_of_ble_eq_true rfl) dX6_turn_58 (fun u12 => ?_)
          refine g_aload_n C 61 0 dX6_turn_61 rfl ?_
          refine gfX_X6_trial C 62 iX6 (List.mem_cons_of_mem _ (List.mem_append_right _ wgL_2_3.1)) dX6_turn_62 ?_
          refine g_iload C 65 5 dX6_turn_65 rfl ?_
          refine g_iload_n C 67 3 dX6_turn_67 rfl ?_
          refine g_callVv (st := []) (As := [.int x9, .int p3]) C EX_ok EX_vm 68 6 2 (tX5_blows F x9 p3 u12) rfl gX6_turn_X5_blows rfl rfl rfl (by decide +kernel) ⟨Nat.le_of_ble_eq_true rfl, Nat.le_of_ble_eq_true rfl⟩ rfl rfl rfl (Nat.le_of_ble_eq_true rfl) dX6_turn_68 (fun u13 => ?_)
          refine g_aload_n C 71 0 dX6_turn_71 rfl ?_
          refine gfX_X6_trial C 72 iX6 (List.mem_cons_of_mem _ (List.mem_append_right _ wgL_2_3.1)) dX6_turn_72 ?_
          refine g_callVi (st := []) (As := []) C EX_ok EX_vm 75 6 0 (tX5_verdictHeld F u13) rfl gX6_turn_X5_verdictHeld rfl rfl rfl (by decide +kernel) ⟨Nat.le_of_ble_eq_true rfl, Nat.le_of_ble_eq_true rfl⟩ rfl rfl rfl (Nat.le_of_ble_eq_true rfl) dX6_turn_75 (fun r15 u14 => ?_)
          refine g_iload C 78 4 dX6_turn_78 rfl ?_
          refine g_icmp_eq C 80 86 dX6_turn_80 (by decide) ?_ ?_
          · skip
            refine g_iinc C 86 5 [(5, .int (x9 + 1)), (0, .ref (ad 0)), (1, .int p1), (2, .int p2), (3, .int p3), (4, .int r8)] dX6_turn_86 rfl rfl (by decide) rfl ?_
            refine g_goto C 89 47 dX6_turn_89 (by decide) ?_
            exact g_sub _ [1, 2, 3, 4, 5, 0] rfl (hself11 (x9 + 1) u14)
          · skip
            refine g_iload C 83 5 dX6_turn_83 rfl ?_
            exact g_iret C 85 dX6_turn_85
      · skip
        refine g_iconst C 34 (-1) dX6_turn_34 rfl ?_
        exact g_iret C 35 dX6_turn_35
def bX6_fillVerdictsByGuards_2 (F : Nat) (p1 : Int32) (p2 : Int32) (self3 : Int32 → St → Option (Unit × St)) (x1 : Int32) (u2 : St) : Option (Unit × St) :=
  if 100 ≤ x1 then some ((), u2) else bd (pX6_prepare F p1 p2 0 u2) (fun (_ : Unit) (u4 : St) => gd (nz 10) (bd (pX5_change F 0 2 (x1 / 10) u4) (fun (_ : Unit) (u5 : St) => gd (nz 10) (bd (pX5_change F 1 2 (irm x1 10) u5) (fun (_ : Unit) (u6 : St) => bd (pX5_verdictHeld F u6) (fun (r8 : Int32) (u7 : St) => gd (inb x1 100) (vl (sta u7 52 x1 r8) (fun (u9 : St) => (self3 (x1 + 1) u9)))))))))
def pX6_fillVerdictsByGuards (F : Nat) (p1 : Int32) (p2 : Int32) (u : St) : Option (Unit × St) :=
  (lq1 (bX6_fillVerdictsByGuards_2 F p1 p2) F 0 u)
set_option maxRecDepth 100000 in
set_option maxHeartbeats 4000000 in
theorem tX6_fillVerdictsByGuards {l : Launch} {D : va_G} {cI cZ : ClassId} {ad : Nat → Nat} {tBURNS tFLAME_BOUNDS : Nat} {tS : Option Nat} {adK adV : Nat → Nat} (F : Nat) (p1 : Int32) (p2 : Int32) (u : St) : CtV l D [(cI, .int), (cZ, .boolean)] (wX ad cI cZ) (EX tBURNS tFLAME_BOUNDS tS adK adV) yX6_fillVerdictsByGuards wsX6_fillVerdictsByGuards ({ frames := 4, cells := 0, slots := 0, locals := 85 } : Room) [.ref (ad 0), .int p1, .int p2] u (pX6_fillVerdictsByGuards F p1 p2 u) := by
  refine ctV_of (own := RX6) (cc := cX6_fillVerdictsByGuards) (n := 4) (ret := none) (by decide) rfl rfl (Nat.le_of_ble_eq_true rfl) (lv := [(0, .ref (ad 0)), (1, .int p1), (2, .int p2)]) rfl (fun C => ?_)
  have iX6 : ∀ w ∈ wsX60, w ∈ wsX6_fillVerdictsByGuards := fun w h => List.mem_cons_of_mem _ (List.mem_append_right _ (inlX6 w h))
  rw [pX6_fillVerdictsByGuards]
  refine g_iconst C 0 0 dX6_fillVerdictsByGuards_0 rfl ?_
  refine g_istore_n C 1 [(3, .int 0), (0, .ref (ad 0)), (1, .int p1), (2, .int p2)] dX6_fillVerdictsByGuards_1 (by decide) rfl ?_
  refine g_sub _ [1, 2, 3, 0] rfl ?_
  refine g_lq1 (fun (x1 : Int32) => [(0, .ref (ad 0)), (1, .int p1), (2, .int p2), (3, .int x1)]) (fun self3 hself3 x1 u2 => ?_) F 0 u
  rw [bX6_fillVerdictsByGuards_2]
  refine g_iload_n C 2 3 dX6_fillVerdictsByGuards_2 rfl ?_
  refine g_bipush C 3 100 dX6_fillVerdictsByGuards_3 rfl ?_
  refine g_icmp_ge C 5 60 dX6_fillVerdictsByGuards_5 (by decide) ?_ ?_
  · skip
    exact g_vret C 60 dX6_fillVerdictsByGuards_60
  · skip
    refine g_aload_n C 8 0 dX6_fillVerdictsByGuards_8 rfl ?_
    refine g_iload_n C 9 1 dX6_fillVerdictsByGuards_9 rfl ?_
    refine g_iload_n C 10 2 dX6_fillVerdictsByGuards_10 rfl ?_
    refine g_iconst C 11 0 dX6_fillVerdictsByGuards_11 rfl ?_
    refine g_callVv (st := []) (As := [.int p1, .int p2, .int 0]) C EX_ok EX_vm 12 0 3 (tX6_prepare F p1 p2 0 u2) rfl gX6_fillVerdictsByGuards_X6_prepare rfl rfl rfl (by decide +kernel) ⟨Nat.le_of_ble_eq_true rfl, Nat.le_of_ble_eq_true rfl⟩ rfl rfl rfl (Nat.le_of_ble_eq_true rfl) dX6_fillVerdictsByGuards_12 (fun u4 => ?_)
    refine g_aload_n C 15 0 dX6_fillVerdictsByGuards_15 rfl ?_
    refine gfX_X6_trial C 16 iX6 (List.mem_cons_of_mem _ (List.mem_append_right _ wgL_2_3.1)) dX6_fillVerdictsByGuards_16 ?_
    refine g_iconst C 19 0 dX6_fillVerdictsByGuards_19 rfl ?_
    refine g_iconst C 20 2 dX6_fillVerdictsByGuards_20 rfl ?_
    refine g_iload_n C 21 3 dX6_fillVerdictsByGuards_21 rfl ?_
    refine g_bipush C 22 10 dX6_fillVerdictsByGuards_22 rfl ?_
    refine g_idiv C 24 dX6_fillVerdictsByGuards_24 ?_
    refine g_callVv (st := []) (As := [.int 0, .int 2, .int (x1 / 10)]) C EX_ok EX_vm 25 6 3 (tX5_change F 0 2 (x1 / 10) u4) rfl gX6_fillVerdictsByGuards_X5_change rfl rfl rfl (by decide +kernel) ⟨Nat.le_of_ble_eq_true rfl, Nat.le_of_ble_eq_true rfl⟩ rfl rfl rfl (Nat.le_of_ble_eq_true rfl) dX6_fillVerdictsByGuards_25 (fun u5 => ?_)
    refine g_aload_n C 28 0 dX6_fillVerdictsByGuards_28 rfl ?_
    refine gfX_X6_trial C 29 iX6 (List.mem_cons_of_mem _ (List.mem_append_right _ wgL_2_3.1)) dX6_fillVerdictsByGuards_29 ?_
    refine g_iconst C 32 1 dX6_fillVerdictsByGuards_32 rfl ?_
    refine g_iconst C 33 2 dX6_fillVerdictsByGuards_33 rfl ?_
    refine g_iload_n C 34 3 dX6_fillVerdictsByGuards_34 rfl ?_
    refine g_bipush C 35 10 dX6_fillVerdictsByGuards_35 rfl ?_
    refine g_irem C 37 dX6_fillVerdictsByGuards_37 ?_
    refine g_callVv (st := []) (As := [.int 1, .int 2, .int (irm x1 10)]) C EX_ok EX_vm 38 6 3 (tX5_change F 1 2 (irm x1 10) u5) rfl gX6_fillVerdictsByGuards_X5_change rfl rfl rfl (by decide +kernel) ⟨Nat.le_of_ble_eq_true rfl, Nat.le_of_ble_eq_true rfl⟩ rfl rfl rfl (Nat.le_of_ble_eq_true rfl) dX6_fillVerdictsByGuards_38 (fun u6 => ?_)
    refine g_aload_n C 41 0 dX6_fillVerdictsByGuards_41 rfl ?_
    refine gfX_X6_verdictsByGuards C 42 iX6 (List.mem_cons_of_mem _ (List.mem_append_right _ wgL_2_17.1)) dX6_fillVerdictsByGuards_42 ?_
    refine g_iload_n C 45 3 dX6_fillVerdictsByGuards_45 rfl ?_
    refine g_aload_n C 46 0 dX6_fillVerdictsByGuards_46 rfl ?_
    refine gfX_X6_trial C 47 iX6 (List.mem_cons_of_mem _ (List.mem_append_right _ wgL_2_3.1)) dX6_fillVerdictsByGuards_47 ?_
    refine g_callVi (st := [.int x1, .ref (ad (10 + 52))]) (As := []) C EX_ok EX_vm 50 6 0 (tX5_verdictHeld F u6) rfl gX6_fillVerdictsByGuards_X5_verdictHeld rfl rfl rfl (by decide +kernel) ⟨Nat.le_of_ble_eq_true rfl, Nat.le_of_ble_eq_true rfl⟩ rfl rfl rfl (Nat.le_of_ble_eq_true rfl) dX6_fillVerdictsByGuards_50 (fun r8 u7 => ?_)
    refine g_iast C 53 (10 + 52) 0 52 (wX_arr 52 (by decide)) (wX_aset 52 (by decide)) rfl dX6_fillVerdictsByGuards_53 (fun u9 => ?_)
    refine g_iinc C 54 3 [(3, .int (x1 + 1)), (0, .ref (ad 0)), (1, .int p1), (2, .int p2)] dX6_fillVerdictsByGuards_54 rfl rfl (by decide) rfl ?_
    refine g_goto C 57 2 dX6_fillVerdictsByGuards_57 (by decide) ?_
    exact g_sub _ [1, 2, 3, 0] rfl (hself3 (x1 + 1) u9)
end
section
def bX6_winsWhateverTheOther_2 (F : Nat) (p1 : Int32) (p2 : Int32) (self3 : Int32 → St → Option (Int32 × St)) (x1 : Int32) (u2 : St) : Option (Int32 × St) :=
  if 10 ≤ x1 then some (1, u2) else jn (fun (a4 : Int32) (u5 : St) => gd (inb a4 100) (if (u5.2 52 (Int32.toNatClampNeg a4)) = (p1 + 1) then (self3 (x1 + 1) u5) else some (0, u5))) (fun (J27 : Int32 → St → Option (Int32 × St)) => if p1 = 0 then (J27 ((10 * p2) + x1) u2) else (J27 ((10 * x1) + p2) u2))
def pX6_winsWhateverTheOther (F : Nat) (p1 : Int32) (p2 : Int32) (u : St) : Option (Int32 × St) :=
  (lq1 (bX6_winsWhateverTheOther_2 F p1 p2) F 0 u)
set_option maxRecDepth 100000 in
set_option maxHeartbeats 4000000 in
theorem tX6_winsWhateverTheOther {l : Launch} {D : va_G} {cI cZ : ClassId} {ad : Nat → Nat} {tBURNS tFLAME_BOUNDS : Nat} {tS : Option Nat} {adK adV : Nat → Nat} (F : Nat) (p1 : Int32) (p2 : Int32) (u : St) : CtI l D [(cI, .int), (cZ, .boolean)] (wX ad cI cZ) (EX tBURNS tFLAME_BOUNDS tS adK adV) yX6_winsWhateverTheOther wsX6_winsWhateverTheOther ({ frames := 0, cells := 0, slots := 0, locals := 0 } : Room) [.ref (ad 0), .int p1, .int p2] u (pX6_winsWhateverTheOther F p1 p2 u) := by
  refine ctI_of (own := RX6) (cc := cX6_winsWhateverTheOther) (n := 5) (ret := (some .boolean)) (by decide) rfl rfl (Nat.le_of_ble_eq_true rfl) (lv := [(0, .ref (ad 0)), (1, .int p1), (2, .int p2)]) rfl (fun C => ?_)
  have iX6 : ∀ w ∈ wsX60, w ∈ wsX6_winsWhateverTheOther := fun w h => List.mem_cons_of_mem _ (List.mem_append_right _ (inlX6 w h))
  rw [pX6_winsWhateverTheOther]
  refine g_iconst C 0 0 dX6_winsWhateverTheOther_0 rfl ?_
  refine g_istore_n C 1 [(3, .int 0), (0, .ref (ad 0)), (1, .int p1), (2, .int p2)] dX6_winsWhateverTheOther_1 (by decide) rfl ?_
  refine g_sub _ [1, 2, 3, 0] rfl ?_
  refine g_lq1 (fun (x1 : Int32) => [(0, .ref (ad 0)), (1, .int p1), (2, .int p2), (3, .int x1)]) (fun self3 hself3 x1 u2 => ?_) F 0 u
  rw [bX6_winsWhateverTheOther_2]
  refine g_iload_n C 2 3 dX6_winsWhateverTheOther_2 rfl ?_
  refine g_bipush C 3 10 dX6_winsWhateverTheOther_3 rfl ?_
  refine g_icmp_ge C 5 50 dX6_winsWhateverTheOther_5 (by decide) ?_ ?_
  · skip
    refine g_iconst C 50 1 dX6_winsWhateverTheOther_50 rfl ?_
    exact g_nret C 51 rfl dX6_winsWhateverTheOther_51
  · skip
    refine g_iload_n C 8 1 dX6_winsWhateverTheOther_8 rfl ?_
    refine g_jn1 27 (fun (a4 : Int32) => [(0, .ref (ad 0)), (1, .int p1), (2, .int p2), (3, .int x1)]) (fun (a4 : Int32) => [.int a4]) (fun a4 u5 => ?_) (fun J27 hJ27 => ?_)
    · skip
      refine g_istore C 27 [(4, .int a4), (0, .ref (ad 0)), (1, .int p1), (2, .int p2), (3, .int x1)] dX6_winsWhateverTheOther_27 (by decide) rfl ?_
      refine g_aload_n C 29 1 dX6_winsWhateverTheOther_29 rfl ?_
      refine gfX_X6_verdictsByGuards C 30 iX6 (List.mem_cons_of_mem _ (List.mem_append_right _ wgL_2_17.1)) dX6_winsWhateverTheOther_30 ?_
      refine g_iload C 33 0 dX6_winsWhateverTheOther_33 rfl ?_
      refine g_iald C 35 (10 + 52) 0 (wX_arr 52 (by decide)) rfl dX6_winsWhateverTheOther_35 ?_
      refine g_iload_n C 36 2 dX6_winsWhateverTheOther_36 rfl ?_
      refine g_iconst C 37 1 dX6_winsWhateverTheOther_37 rfl ?_
      refine g_iadd C 38 dX6_winsWhateverTheOther_38 ?_
      refine g_icmp_eq C 39 44 dX6_winsWhateverTheOther_39 (by decide) ?_ ?_
      · skip
        refine g_iinc C 44 4 [(3, .int (x1 + 1)), (4, .int a4), (0, .ref (ad 0)), (1, .int p1), (2, .int p2)] dX6_winsWhateverTheOther_44 rfl rfl (by decide) rfl ?_
        refine g_goto C 47 2 dX6_winsWhateverTheOther_47 (by decide) ?_
        exact g_sub _ [2, 3, 4, 0] rfl (hself3 (x1 + 1) u5)
      · skip
        refine g_iconst C 42 0 dX6_winsWhateverTheOther_42 rfl ?_
        exact g_nret C 43 rfl dX6_winsWhateverTheOther_43
    · skip
      refine g_if_ne C 9 21 dX6_winsWhateverTheOther_9 (by decide) ?_ ?_
      · skip
        refine g_bipush C 21 10 dX6_winsWhateverTheOther_21 rfl ?_
        refine g_iload_n C 23 3 dX6_winsWhateverTheOther_23 rfl ?_
        refine g_imul C 24 dX6_winsWhateverTheOther_24 ?_
        refine g_iload_n C 25 2 dX6_winsWhateverTheOther_25 rfl ?_
        refine g_iadd C 26 dX6_winsWhateverTheOther_26 ?_
        exact g_sub _ [0, 1, 2, 3] rfl (hJ27 ((10 * x1) + p2) u2)
      · skip
        refine g_bipush C 12 10 dX6_winsWhateverTheOther_12 rfl ?_
        refine g_iload_n C 14 2 dX6_winsWhateverTheOther_14 rfl ?_
        refine g_imul C 15 dX6_winsWhateverTheOther_15 ?_
        refine g_iload_n C 16 3 dX6_winsWhateverTheOther_16 rfl ?_
        refine g_iadd C 17 dX6_winsWhateverTheOther_17 ?_
        refine g_goto C 18 27 dX6_winsWhateverTheOther_18 (by decide) ?_
        exact g_sub _ [0, 1, 2, 3] rfl (hJ27 ((10 * p2) + x1) u2)
def bX6_sure_31 (F : Nat) (p2 : Int32) (self8 : Int32 → St → Option (Int32 × St)) (x6 : Int32) (u7 : St) : Option (Int32 × St) :=
  if 10 ≤ x6 then some ((-4), u7) else bd (pX6_winsWhateverTheOther F p2 x6 u7) (fun (r10 : Int32) (u9 : St) => if r10 = 0 then (self8 (x6 + 1) u9) else some (x6, u9))
def pX6_sure (F : Nat) (p1 : Int32) (p2 : Int32) (p3 : Int32) (u : St) : Option (Int32 × St) :=
  bd (pX6_isFlame F p1 p2 u) (fun (r2 : Int32) (u1 : St) => if r2 = 0 then some ((-1), u1) else bd (pX0_hasJudge F 0 p3 u1) (fun (r4 : Int32) (u3 : St) => if r4 = 0 then some ((-1), u3) else bd (pX6_fillVerdictsByGuards F p1 p3 u3) (fun (_ : Unit) (u5 : St) => (lq1 (bX6_sure_31 F p2) F 0 u5))))
set_option maxRecDepth 100000 in
set_option maxHeartbeats 4000000 in
theorem tX6_sure {l : Launch} {D : va_G} {cI cZ : ClassId} {ad : Nat → Nat} {tBURNS tFLAME_BOUNDS : Nat} {tS : Option Nat} {adK adV : Nat → Nat} (F : Nat) (p1 : Int32) (p2 : Int32) (p3 : Int32) (u : St) : CtI l D [(cI, .int), (cZ, .boolean)] (wX ad cI cZ) (EX tBURNS tFLAME_BOUNDS tS adK adV) yX6_sure wsX6_sure ({ frames := 5, cells := 0, slots := 0, locals := 108 } : Room) [.ref (ad 0), .int p1, .int p2, .int p3] u (pX6_sure F p1 p2 p3 u) := by
  refine ctI_of (own := RX6) (cc := cX6_sure) (n := 5) (ret := (some .int)) (by decide) rfl rfl (Nat.le_of_ble_eq_true rfl) (lv := [(0, .ref (ad 0)), (1, .int p1), (2, .int p2), (3, .int p3)]) rfl (fun C => ?_)
  have iX6 : ∀ w ∈ wsX60, w ∈ wsX6_sure := fun w h => List.mem_cons_of_mem _ (List.mem_append_right _ (inlX6 w h))
  rw [pX6_sure]
  refine g_aload_n C 0 0 dX6_sure_0 rfl ?_
  refine g_iload_n C 1 1 dX6_sure_1 rfl ?_
  refine g_iload_n C 2 2 dX6_sure_2 rfl ?_
  refine g_callVi (st := []) (As := [.int p1, .int p2]) C EX_ok EX_vm 3 0 2 (tX6_isFlame F p1 p2 u) rfl gX6_sure_X6_isFlame rfl rfl rfl (by decide +kernel) ⟨Nat.le_of_ble_eq_true rfl, Nat.le_of_ble_eq_true rfl⟩ rfl rfl rfl (Nat.le_of_ble_eq_true rfl) dX6_sure_3 (fun r2 u1 => ?_)
  refine g_if_eq C 6 20 dX6_sure_6 (by decide) ?_ ?_
  · skip
    refine g_iconst C 20 (-1) dX6_sure_20 rfl ?_
    exact g_iret C 21 dX6_sure_21
  · skip
    refine g_aload_n C 9 0 dX6_sure_9 rfl ?_
    refine gfX_X6_court C 10 iX6 (List.mem_cons_of_mem _ (List.mem_append_right _ wgL_1_15.1)) dX6_sure_10 ?_
    refine g_iload_n C 13 3 dX6_sure_13 rfl ?_
    refine g_callVi (st := []) (As := [.int p3]) C EX_ok EX_vm 14 1 1 (tX0_hasJudge F 0 (by decide) p3 u1) rfl gX6_sure_X0_hasJudge rfl rfl rfl (by decide +kernel) ⟨Nat.le_of_ble_eq_true rfl, Nat.le_of_ble_eq_true rfl⟩ (wX_X0 ad cI cZ _ 0 (by decide)) rfl rfl (Nat.le_of_ble_eq_true rfl) dX6_sure_14 (fun r4 u3 => ?_)
    refine g_if_ne C 17 22 dX6_sure_17 (by decide) ?_ ?_
    · skip
      refine g_aload_n C 22 0 dX6_sure_22 rfl ?_
      refine g_iload_n C 23 1 dX6_sure_23 rfl ?_
      refine g_iload_n C 24 3 dX6_sure_24 rfl ?_
      refine g_callVv (st := []) (As := [.int p1, .int p3]) C EX_ok EX_vm 25 0 2 (tX6_fillVerdictsByGuards F p1 p3 u3) rfl gX6_sure_X6_fillVerdictsByGuards rfl rfl rfl (by decide +kernel) ⟨Nat.le_of_ble_eq_true rfl, Nat.le_of_ble_eq_true rfl⟩ rfl rfl rfl (Nat.le_of_ble_eq_true rfl) dX6_sure_25 (fun u5 => ?_)
      refine g_iconst C 28 0 dX6_sure_28 rfl ?_
      refine g_istore C 29 [(4, .int 0), (0, .ref (ad 0)), (1, .int p1), (2, .int p2), (3, .int p3)] dX6_sure_29 (by decide) rfl ?_
      refine g_sub _ [1, 3, 0] rfl ?_
      refine g_lq1 (fun (x6 : Int32) => [(0, .ref (ad 0)), (2, .int p2), (4, .int x6)]) (fun self8 hself8 x6 u7 => ?_) F 0 u5
      rw [bX6_sure_31]
      refine g_iload C 31 2 dX6_sure_31 rfl ?_
      refine g_bipush C 33 10 dX6_sure_33 rfl ?_
      refine g_icmp_ge C 35 57 dX6_sure_35 (by decide) ?_ ?_
      · skip
        refine g_bipush C 57 (-4) dX6_sure_57 rfl ?_
        exact g_iret C 59 dX6_sure_59
      · skip
        refine g_aload_n C 38 0 dX6_sure_38 rfl ?_
        refine g_iload_n C 39 1 dX6_sure_39 rfl ?_
        refine g_iload C 40 2 dX6_sure_40 rfl ?_
        refine g_callVi (st := []) (As := [.int p2, .int x6]) C EX_ok EX_vm 42 0 2 (tX6_winsWhateverTheOther F p2 x6 u7) rfl gX6_sure_X6_winsWhateverTheOther rfl rfl rfl (by decide +kernel) ⟨Nat.le_of_ble_eq_true rfl, Nat.le_of_ble_eq_true rfl⟩ rfl rfl rfl (Nat.le_of_ble_eq_true rfl) dX6_sure_42 (fun r10 u9 => ?_)
        refine g_if_eq C 45 51 dX6_sure_45 (by decide) ?_ ?_
        · skip
          refine g_iinc C 51 2 [(4, .int (x6 + 1)), (0, .ref (ad 0)), (2, .int p2)] dX6_sure_51 rfl rfl (by decide) rfl ?_
          refine g_goto C 54 31 dX6_sure_54 (by decide) ?_
          exact g_sub _ [1, 2, 0] rfl (hself8 (x6 + 1) u9)
        · skip
          refine g_iload C 48 2 dX6_sure_48 rfl ?_
          exact g_iret C 50 dX6_sure_50
    · skip
      refine g_iconst C 20 (-1) dX6_sure_20 rfl ?_
      exact g_iret C 21 dX6_sure_21
def pX6_worth (F : Nat) (p1 : Int32) (p2 : Int32) (u : St) : Option (Int32 × St) :=
  if p1 = 3 then some (1, u) else if p1 = (p2 + 1) then some (2, u) else some (0, u)
set_option maxRecDepth 100000 in
set_option maxHeartbeats 4000000 in
theorem tX6_worth {l : Launch} {D : va_G} {cI cZ : ClassId} {ad : Nat → Nat} {tBURNS tFLAME_BOUNDS : Nat} {tS : Option Nat} {adK adV : Nat → Nat} (F : Nat) (p1 : Int32) (p2 : Int32) (u : St) : CtI l D [(cI, .int), (cZ, .boolean)] (wX ad cI cZ) (EX tBURNS tFLAME_BOUNDS tS adK adV) yX6_worth wsX6_worth ({ frames := 0, cells := 0, slots := 0, locals := 0 } : Room) [.int p1, .int p2] u (pX6_worth F p1 p2 u) := by
  refine ctI_of (own := RX6) (cc := cX6_worth) (n := 2) (ret := (some .int)) (by decide) rfl rfl (Nat.le_of_ble_eq_true rfl) (lv := [(0, .int p1), (1, .int p2)]) rfl (fun C => ?_)
  rw [pX6_worth]
  refine g_iload_n C 0 0 dX6_worth_0 rfl ?_
  refine g_iconst C 1 3 dX6_worth_1 rfl ?_
  refine g_icmp_ne C 2 7 dX6_worth_2 (by decide) ?_ ?_
  · skip
    refine g_iload_n C 7 0 dX6_worth_7 rfl ?_
    refine g_iload_n C 8 1 dX6_worth_8 rfl ?_
    refine g_iconst C 9 1 dX6_worth_9 rfl ?_
    refine g_iadd C 10 dX6_worth_10 ?_
    refine g_icmp_ne C 11 18 dX6_worth_11 (by decide) ?_ ?_
    · skip
      refine g_iconst C 18 0 dX6_worth_18 rfl ?_
      exact g_iret C 19 dX6_worth_19
    · skip
      refine g_iconst C 14 2 dX6_worth_14 rfl ?_
      refine g_goto C 15 19 dX6_worth_15 (by decide) ?_
      exact g_iret C 19 dX6_worth_19
  · skip
    refine g_iconst C 5 1 dX6_worth_5 rfl ?_
    exact g_iret C 6 dX6_worth_6
def bX6_isAtRest_15 (F : Nat) (p1 : Int32) (p2 : Int32) (v1 : Int32) (self4 : Int32 → St → Option (Int32 × St)) (x2 : Int32) (u3 : St) : Option (Int32 × St) :=
  if 10 ≤ x2 then some (1, u3) else gd (inb ((10 * x2) + p2) 100) (bd (pX6_worth F (u3.2 52 (Int32.toNatClampNeg ((10 * x2) + p2))) 0 u3) (fun (r6 : Int32) (u5 : St) => bd (pX6_worth F v1 0 u5) (fun (r8 : Int32) (u7 : St) => if r8 < r6 then some (0, u7) else gd (inb ((10 * p1) + x2) 100) (bd (pX6_worth F (u7.2 52 (Int32.toNatClampNeg ((10 * p1) + x2))) 1 u7) (fun (r10 : Int32) (u9 : St) => bd (pX6_worth F v1 1 u9) (fun (r12 : Int32) (u11 : St) => if r10 ≤ r12 then (self4 (x2 + 1) u11) else some (0, u11)))))))
def pX6_isAtRest (F : Nat) (p1 : Int32) (p2 : Int32) (u : St) : Option (Int32 × St) :=
  gd (inb ((10 * p1) + p2) 100) (vl (u.2 52 (Int32.toNatClampNeg ((10 * p1) + p2))) (fun v1 => (lq1 (bX6_isAtRest_15 F p1 p2 v1) F 0 u)))
set_option maxRecDepth 100000 in
set_option maxHeartbeats 4000000 in
theorem tX6_isAtRest {l : Launch} {D : va_G} {cI cZ : ClassId} {ad : Nat → Nat} {tBURNS tFLAME_BOUNDS : Nat} {tS : Option Nat} {adK adV : Nat → Nat} (F : Nat) (p1 : Int32) (p2 : Int32) (u : St) : CtI l D [(cI, .int), (cZ, .boolean)] (wX ad cI cZ) (EX tBURNS tFLAME_BOUNDS tS adK adV) yX6_isAtRest wsX6_isAtRest ({ frames := 1, cells := 0, slots := 0, locals := 21 } : Room) [.ref (ad 0), .int p1, .int p2] u (pX6_isAtRest F p1 p2 u) := by
  refine ctI_of (own := RX6) (cc := cX6_isAtRest) (n := 5) (ret := (some .boolean)) (by decide) rfl rfl (Nat.le_of_ble_eq_true rfl) (lv := [(0, .ref (ad 0)), (1, .int p1), (2, .int p2)]) rfl (fun C => ?_)
  have iX6 : ∀ w ∈ wsX60, w ∈ wsX6_isAtRest := fun w h => List.mem_cons_of_mem _ (List.mem_append_right _ (inlX6 w h))
  rw [pX6_isAtRest]
  refine g_aload_n C 0 0 dX6_isAtRest_0 rfl ?_
  refine gfX_X6_verdictsByGuards C 1 iX6 (List.mem_cons_of_mem _ (List.mem_append_right _ wgL_2_17.1)) dX6_isAtRest_1 ?_
  refine g_bipush C 4 10 dX6_isAtRest_4 rfl ?_
  refine g_iload_n C 6 1 dX6_isAtRest_6 rfl ?_
  refine g_imul C 7 dX6_isAtRest_7 ?_
  refine g_iload_n C 8 2 dX6_isAtRest_8 rfl ?_
  refine g_iadd C 9 dX6_isAtRest_9 ?_
  refine g_iald C 10 (10 + 52) 0 (wX_arr 52 (by decide)) rfl dX6_isAtRest_10 ?_
  refine g_istore_nV C 11 (fun v1 => [(3, .int v1), (0, .ref (ad 0)), (1, .int p1), (2, .int p2)]) dX6_isAtRest_11 (by decide) (fun _ => rfl) (fun v1 => ?_)
  refine g_iconst C 12 0 dX6_isAtRest_12 rfl ?_
  refine g_istore C 13 [(4, .int 0), (3, .int v1), (0, .ref (ad 0)), (1, .int p1), (2, .int p2)] dX6_isAtRest_13 (by decide) rfl ?_
  refine g_sub _ [2, 3, 4, 1, 0] rfl ?_
  refine g_lq1 (fun (x2 : Int32) => [(0, .ref (ad 0)), (1, .int p1), (2, .int p2), (3, .int v1), (4, .int x2)]) (fun self4 hself4 x2 u3 => ?_) F 0 u
  rw [bX6_isAtRest_15]
  refine g_iload C 15 4 dX6_isAtRest_15 rfl ?_
  refine g_bipush C 17 10 dX6_isAtRest_17 rfl ?_
  refine g_icmp_ge C 19 78 dX6_isAtRest_19 (by decide) ?_ ?_
  · skip
    refine g_iconst C 78 1 dX6_isAtRest_78 rfl ?_
    exact g_nret C 79 rfl dX6_isAtRest_79
  · skip
    refine g_aload_n C 22 0 dX6_isAtRest_22 rfl ?_
    refine gfX_X6_verdictsByGuards C 23 iX6 (List.mem_cons_of_mem _ (List.mem_append_right _ wgL_2_17.1)) dX6_isAtRest_23 ?_
    refine g_bipush C 26 10 dX6_isAtRest_26 rfl ?_
    refine g_iload C 28 4 dX6_isAtRest_28 rfl ?_
    refine g_imul C 30 dX6_isAtRest_30 ?_
    refine g_iload_n C 31 2 dX6_isAtRest_31 rfl ?_
    refine g_iadd C 32 dX6_isAtRest_32 ?_
    refine g_iald C 33 (10 + 52) 0 (wX_arr 52 (by decide)) rfl dX6_isAtRest_33 ?_
    refine g_iconst C 34 0 dX6_isAtRest_34 rfl ?_
    refine g_callSi (st := []) (As := [.int (u3.2 52 (Int32.toNatClampNeg ((10 * x2) + p2))), .int 0]) C EX_ok EX_vm 35 2 (tX6_worth F (u3.2 52 (Int32.toNatClampNeg ((10 * x2) + p2))) 0 u3) rfl gX6_isAtRest_X6_worth rfl rfl rfl (by decide +kernel) ⟨Nat.le_of_ble_eq_true rfl, Nat.le_of_ble_eq_true rfl⟩ rfl (Nat.le_of_ble_eq_true rfl) dX6_isAtRest_35 (fun r6 u5 => ?_)
    refine g_iload_n C 38 3 dX6_isAtRest_38 rfl ?_
    refine g_iconst C 39 0 dX6_isAtRest_39 rfl ?_
    refine g_callSi (st := [.int r6]) (As := [.int v1, .int 0]) C EX_ok EX_vm 40 2 (tX6_worth F v1 0 u5) rfl gX6_isAtRest_X6_worth rfl rfl rfl (by decide +kernel) ⟨Nat.le_of_ble_eq_true rfl, Nat.le_of_ble_eq_true rfl⟩ rfl (Nat.le_of_ble_eq_true rfl) dX6_isAtRest_40 (fun r8 u7 => ?_)
    refine g_icmp_gt C 43 70 dX6_isAtRest_43 (by decide) ?_ ?_
    · skip
      refine g_iconst C 70 0 dX6_isAtRest_70 rfl ?_
      exact g_nret C 71 rfl dX6_isAtRest_71
    · skip
      refine g_aload_n C 46 0 dX6_isAtRest_46 rfl ?_
      refine gfX_X6_verdictsByGuards C 47 iX6 (List.mem_cons_of_mem _ (List.mem_append_right _ wgL_2_17.1)) dX6_isAtRest_47 ?_
      refine g_bipush C 50 10 dX6_isAtRest_50 rfl ?_
      refine g_iload_n C 52 1 dX6_isAtRest_52 rfl ?_
      refine g_imul C 53 dX6_isAtRest_53 ?_
      refine g_iload C 54 4 dX6_isAtRest_54 rfl ?_
      refine g_iadd C 56 dX6_isAtRest_56 ?_
      refine g_iald C 57 (10 + 52) 0 (wX_arr 52 (by decide)) rfl dX6_isAtRest_57 ?_
      refine g_iconst C 58 1 dX6_isAtRest_58 rfl ?_
      refine g_callSi (st := []) (As := [.int (u7.2 52 (Int32.toNatClampNeg ((10 * p1) + x2))), .int 1]) C EX_ok EX_vm 59 2 (tX6_worth F (u7.2 52 (Int32.toNatClampNeg ((10 * p1) + x2))) 1 u7) rfl gX6_isAtRest_X6_worth rfl rfl rfl (by decide +kernel) ⟨Nat.le_of_ble_eq_true rfl, Nat.le_of_ble_eq_true rfl⟩ rfl (Nat.le_of_ble_eq_true rfl) dX6_isAtRest_59 (fun r10 u9 => ?_)
      refine g_iload_n C 62 3 dX6_isAtRest_62 rfl ?_
      refine g_iconst C 63 1 dX6_isAtRest_63 rfl ?_
      refine g_callSi (st := [.int r10]) (As := [.int v1, .int 1]) C EX_ok EX_vm 64 2 (tX6_worth F v1 1 u9) rfl gX6_isAtRest_X6_worth rfl rfl rfl (by decide +kernel) ⟨Nat.le_of_ble_eq_true rfl, Nat.le_of_ble_eq_true rfl⟩ rfl (Nat.le_of_ble_eq_true rfl) dX6_isAtRest_64 (fun r12 u11 => ?_)
      refine g_icmp_le C 67 72 dX6_isAtRest_67 (by decide) ?_ ?_
      · skip
        refine g_iinc C 72 4 [(4, .int (x2 + 1)), (0, .ref (ad 0)), (1, .int p1), (2, .int p2), (3, .int v1)] dX6_isAtRest_72 rfl rfl (by decide) rfl ?_
        refine g_goto C 75 15 dX6_isAtRest_75 (by decide) ?_
        exact g_sub _ [1, 2, 3, 4, 0] rfl (hself4 (x2 + 1) u11)
      · skip
        refine g_iconst C 70 0 dX6_isAtRest_70 rfl ?_
        exact g_nret C 71 rfl dX6_isAtRest_71
def jX6_rest_100 (F : Nat) (p3 : Int32) (a8 : Int32) (a9 : Int32) (u10 : St) : Option (Int32 × St) :=
  if p3 = 0 then some (a8, u10) else some (a9, u10)
def bX6_rest_51 (F : Nat) (J100 : Int32 → Int32 → St → Option (Int32 × St)) (self15 : Int32 → Int32 → Int32 → St → Option (Int32 × St)) (x11 : Int32) (x12 : Int32) (x13 : Int32) (u14 : St) : Option (Int32 × St) :=
  if 100 ≤ x13 then (J100 x11 x12 u14) else gd (nz 10) (gd (nz 10) (bd (pX6_isAtRest F (x13 / 10) (irm x13 10) u14) (fun (r17 : Int32) (u16 : St) => jn (fun (a18 : Int32) (a19 : Int32) (u20 : St) => (self15 a18 a19 (x13 + 1) u20)) (fun (J94 : Int32 → Int32 → St → Option (Int32 × St)) => if r17 = 0 then (J94 x11 x12 u16) else jn (fun (a21 : Int32) (u22 : St) => (J94 (x11 + 1) a21 u22)) (fun (J92 : Int32 → St → Option (Int32 × St)) => if x12 = (-4) then (J92 x13 u16) else (J92 x12 u16))))))
def pX6_rest (F : Nat) (p1 : Int32) (p2 : Int32) (p3 : Int32) (u : St) : Option (Int32 × St) :=
  bd (pX0_hasCase F 0 (Int32.toInt64 p1) u) (fun (r2 : Int32) (u1 : St) => if r2 = 0 then some ((-1), u1) else bd (pX0_hasJudge F 0 p2 u1) (fun (r4 : Int32) (u3 : St) => if r4 = 0 then some ((-1), u3) else bd (pX6_isIn F (Int32.toInt64 p3) 0 1 u3) (fun (r6 : Int32) (u5 : St) => if r6 = 0 then some ((-1), u5) else bd (pX6_fillVerdictsByGuards F p1 p2 u5) (fun (_ : Unit) (u7 : St) => jn (jX6_rest_100 F p3) (fun (J100 : Int32 → Int32 → St → Option (Int32 × St)) => (lq3 (bX6_rest_51 F J100) F 0 (-4) 0 u7))))))
set_option maxRecDepth 100000 in
set_option maxHeartbeats 4000000 in
theorem tX6_rest {l : Launch} {D : va_G} {cI cZ : ClassId} {ad : Nat → Nat} {tBURNS tFLAME_BOUNDS : Nat} {tS : Option Nat} {adK adV : Nat → Nat} (F : Nat) (p1 : Int32) (p2 : Int32) (p3 : Int32) (u : St) : CtI l D [(cI, .int), (cZ, .boolean)] (wX ad cI cZ) (EX tBURNS tFLAME_BOUNDS tS adK adV) yX6_rest wsX6_rest ({ frames := 5, cells := 0, slots := 0, locals := 108 } : Room) [.ref (ad 0), .int p1, .int p2, .int p3] u (pX6_rest F p1 p2 p3 u) := by
  refine ctI_of (own := RX6) (cc := cX6_rest) (n := 7) (ret := (some .int)) (by decide) rfl rfl (Nat.le_of_ble_eq_true rfl) (lv := [(0, .ref (ad 0)), (1, .int p1), (2, .int p2), (3, .int p3)]) rfl (fun C => ?_)
  have iX6 : ∀ w ∈ wsX60, w ∈ wsX6_rest := fun w h => List.mem_cons_of_mem _ (List.mem_append_right _ (inlX6 w h))
  rw [pX6_rest]
  refine g_aload_n C 0 0 dX6_rest_0 rfl ?_
  refine gfX_X6_court C 1 iX6 (List.mem_cons_of_mem _ (List.mem_append_right _ wgL_1_15.1)) dX6_rest_1 ?_
  refine g_iload_n C 4 1 dX6_rest_4 rfl ?_
  refine g_i2l C 5 dX6_rest_5 ?_
  refine g_callVi (st := []) (As := [.long (Int32.toInt64 p1)]) C EX_ok EX_vm 6 1 1 (tX0_hasCase F 0 (by decide) (Int32.toInt64 p1) u) rfl gX6_rest_X0_hasCase rfl rfl rfl (by decide +kernel) ⟨Nat.le_of_ble_eq_true rfl, Nat.le_of_ble_eq_true rfl⟩ (wX_X0 ad cI cZ _ 0 (by decide)) rfl rfl (Nat.le_of_ble_eq_true rfl) dX6_rest_6 (fun r2 u1 => ?_)
  refine g_if_eq C 9 33 dX6_rest_9 (by decide) ?_ ?_
  · skip
    refine g_iconst C 33 (-1) dX6_rest_33 rfl ?_
    exact g_iret C 34 dX6_rest_34
  · skip
    refine g_aload_n C 12 0 dX6_rest_12 rfl ?_
    refine gfX_X6_court C 13 iX6 (List.mem_cons_of_mem _ (List.mem_append_right _ wgL_1_15.1)) dX6_rest_13 ?_
    refine g_iload_n C 16 2 dX6_rest_16 rfl ?_
    refine g_callVi (st := []) (As := [.int p2]) C EX_ok EX_vm 17 1 1 (tX0_hasJudge F 0 (by decide) p2 u1) rfl gX6_rest_X0_hasJudge rfl rfl rfl (by decide +kernel) ⟨Nat.le_of_ble_eq_true rfl, Nat.le_of_ble_eq_true rfl⟩ (wX_X0 ad cI cZ _ 0 (by decide)) rfl rfl (Nat.le_of_ble_eq_true rfl) dX6_rest_17 (fun r4 u3 => ?_)
    refine g_if_eq C 20 33 dX6_rest_20 (by decide) ?_ ?_
    · skip
      refine g_iconst C 33 (-1) dX6_rest_33 rfl ?_
      exact g_iret C 34 dX6_rest_34
    · skip
      refine g_iload_n C 23 3 dX6_rest_23 rfl ?_
      refine g_i2l C 24 dX6_rest_24 ?_
      refine g_iconst C 25 0 dX6_rest_25 rfl ?_
      refine g_iconst C 26 1 dX6_rest_26 rfl ?_
      refine g_callSi (st := []) (As := [.long (Int32.toInt64 p3), .int 0, .int 1]) C EX_ok EX_vm 27 3 (tX6_isIn F (Int32.toInt64 p3) 0 1 u3) rfl gX6_rest_X6_isIn rfl rfl rfl (by decide +kernel) ⟨Nat.le_of_ble_eq_true rfl, Nat.le_of_ble_eq_true rfl⟩ rfl (Nat.le_of_ble_eq_true rfl) dX6_rest_27 (fun r6 u5 => ?_)
      refine g_if_ne C 30 35 dX6_rest_30 (by decide) ?_ ?_
      · skip
        refine g_aload_n C 35 0 dX6_rest_35 rfl ?_
        refine g_iload_n C 36 1 dX6_rest_36 rfl ?_
        refine g_iload_n C 37 2 dX6_rest_37 rfl ?_
        refine g_callVv (st := []) (As := [.int p1, .int p2]) C EX_ok EX_vm 38 0 2 (tX6_fillVerdictsByGuards F p1 p2 u5) rfl gX6_rest_X6_fillVerdictsByGuards rfl rfl rfl (by decide +kernel) ⟨Nat.le_of_ble_eq_true rfl, Nat.le_of_ble_eq_true rfl⟩ rfl rfl rfl (Nat.le_of_ble_eq_true rfl) dX6_rest_38 (fun u7 => ?_)
        refine g_iconst C 41 0 dX6_rest_41 rfl ?_
        refine g_istore C 42 [(4, .int 0), (0, .ref (ad 0)), (1, .int p1), (2, .int p2), (3, .int p3)] dX6_rest_42 (by decide) rfl ?_
        refine g_bipush C 44 (-4) dX6_rest_44 rfl ?_
        refine g_istore C 46 [(5, .int (-4)), (4, .int 0), (0, .ref (ad 0)), (1, .int p1), (2, .int p2), (3, .int p3)] dX6_rest_46 (by decide) rfl ?_
        refine g_iconst C 48 0 dX6_rest_48 rfl ?_
        refine g_istore C 49 [(6, .int 0), (5, .int (-4)), (4, .int 0), (0, .ref (ad 0)), (1, .int p1), (2, .int p2), (3, .int p3)] dX6_rest_49 (by decide) rfl ?_
        refine g_jn2 100 (fun (a8 : Int32) (a9 : Int32) => [(3, .int p3), (4, .int a8), (5, .int a9)]) (fun (a8 : Int32) (a9 : Int32) => []) (fun a8 a9 u10 => ?_) (fun J100 hJ100 => ?_)
        · skip
          rw [jX6_rest_100]
          refine g_iload_n C 100 0 dX6_rest_100 rfl ?_
          refine g_if_ne C 101 109 dX6_rest_101 (by decide) ?_ ?_
          · skip
            refine g_iload C 109 2 dX6_rest_109 rfl ?_
            exact g_iret C 111 dX6_rest_111
          · skip
            refine g_iload C 104 1 dX6_rest_104 rfl ?_
            refine g_goto C 106 111 dX6_rest_106 (by decide) ?_
            exact g_iret C 111 dX6_rest_111
        · skip
          refine g_sub _ [3, 6, 2, 1, 0] rfl ?_
          refine g_lq3 (fun (x11 : Int32) (x12 : Int32) (x13 : Int32) => [(0, .ref (ad 0)), (3, .int p3), (4, .int x11), (5, .int x12), (6, .int x13)]) (fun self15 hself15 x11 x12 x13 u14 => ?_) F 0 (-4) 0 u7
          rw [bX6_rest_51]
          refine g_iload C 51 4 dX6_rest_51 rfl ?_
          refine g_bipush C 53 100 dX6_rest_53 rfl ?_
          refine g_icmp_ge C 55 100 dX6_rest_55 (by decide) ?_ ?_
          · skip
            exact g_sub _ [1, 2, 3] rfl (hJ100 x11 x12 u14)
          · skip
            refine g_aload_n C 58 0 dX6_rest_58 rfl ?_
            refine g_iload C 59 4 dX6_rest_59 rfl ?_
            refine g_bipush C 61 10 dX6_rest_61 rfl ?_
            refine g_idiv C 63 dX6_rest_63 ?_
            refine g_iload C 64 4 dX6_rest_64 rfl ?_
            refine g_bipush C 66 10 dX6_rest_66 rfl ?_
            refine g_irem C 68 dX6_rest_68 ?_
            refine g_callVi (st := []) (As := [.int (x13 / 10), .int (irm x13 10)]) C EX_ok EX_vm 69 0 2 (tX6_isAtRest F (x13 / 10) (irm x13 10) u14) rfl gX6_rest_X6_isAtRest rfl rfl rfl (by decide +kernel) ⟨Nat.le_of_ble_eq_true rfl, Nat.le_of_ble_eq_true rfl⟩ rfl rfl rfl (Nat.le_of_ble_eq_true rfl) dX6_rest_69 (fun r17 u16 => ?_)
            refine g_jn2 94 (fun (a18 : Int32) (a19 : Int32) => [(0, .ref (ad 0)), (3, .int p3), (4, .int a18), (5, .int a19), (6, .int x13)]) (fun (a18 : Int32) (a19 : Int32) => []) (fun a18 a19 u20 => ?_) (fun J94 hJ94 => ?_)
            · skip
              refine g_iinc C 94 4 [(6, .int (x13 + 1)), (0, .ref (ad 0)), (3, .int p3), (4, .int a18), (5, .int a19)] dX6_rest_94 rfl rfl (by decide) rfl ?_
              refine g_goto C 97 51 dX6_rest_97 (by decide) ?_
              exact g_sub _ [1, 2, 3, 4, 0] rfl (hself15 a18 a19 (x13 + 1) u20)
            · skip
              refine g_if_eq C 72 94 dX6_rest_72 (by decide) ?_ ?_
              · skip
                exact g_sub _ [0, 1, 2, 3, 4] rfl (hJ94 x11 x12 u16)
              · skip
                refine g_iinc C 75 2 [(4, .int (x11 + 1)), (0, .ref (ad 0)), (3, .int p3), (5, .int x12), (6, .int x13)] dX6_rest_75 rfl rfl (by decide) rfl ?_
                refine g_iload C 78 3 dX6_rest_78 rfl ?_
                refine g_bipush C 80 (-4) dX6_rest_80 rfl ?_
                refine g_jn1 92 (fun (a21 : Int32) => [(0, .ref (ad 0)), (3, .int p3), (4, .int (x11 + 1)), (6, .int x13)]) (fun (a21 : Int32) => [.int a21]) (fun a21 u22 => ?_) (fun J92 hJ92 => ?_)
                · skip
                  refine g_istore C 92 [(5, .int a21), (0, .ref (ad 0)), (3, .int p3), (4, .int (x11 + 1)), (6, .int x13)] dX6_rest_92 (by decide) rfl ?_
                  exact g_sub _ [1, 2, 3, 0, 4] rfl (hJ94 (x11 + 1) a21 u22)
                · skip
                  refine g_icmp_ne C 82 90 dX6_rest_82 (by decide) ?_ ?_
                  · skip
                    refine g_iload C 90 3 dX6_rest_90 rfl ?_
                    exact g_sub _ [1, 2, 0, 4] rfl (hJ92 x12 u16)
                  · skip
                    refine g_iload C 85 4 dX6_rest_85 rfl ?_
                    refine g_goto C 87 92 dX6_rest_87 (by decide) ?_
                    exact g_sub _ [1, 2, 0, 4] rfl (hJ92 x13 u16)
      · skip
        refine g_iconst C 33 (-1) dX6_rest_33 rfl ?_
        exact g_iret C 34 dX6_rest_34
def bX6_casesThatMayBeWon_4 (F : Nat) (p1 : Int32) (self4 : Int32 → Int32 → St → Option (Int32 × St)) (x1 : Int32) (x2 : Int32) (u3 : St) : Option (Int32 × St) :=
  if (u3.1 0) ≤ x2 then some (x1, u3) else gd (inb x2 4) (jn (fun (a5 : Int32) (u6 : St) => vl (x1 + a5) (fun v7 => (self4 v7 (x2 + 1) u6))) (fun (J42 : Int32 → St → Option (Int32 × St)) => jn (fun (u8 : St) => (J42 0 u8)) (fun (J41 : St → Option (Int32 × St)) => if (u3.2 3 (Int32.toNatClampNeg x2)) = 0 then bd (pX6_judgesFor F x2 p1 u3) (fun (r10 : Int32) (u9 : St) => if r10 = 0 then (J41 u9) else (J42 1 u9)) else (J41 u3))))
def pX6_casesThatMayBeWon (F : Nat) (p1 : Int32) (u : St) : Option (Int32 × St) :=
  (lq2 (bX6_casesThatMayBeWon_4 F p1) F 0 0 u)
set_option maxRecDepth 100000 in
set_option maxHeartbeats 4000000 in
theorem tX6_casesThatMayBeWon {l : Launch} {D : va_G} {cI cZ : ClassId} {ad : Nat → Nat} {tBURNS tFLAME_BOUNDS : Nat} {tS : Option Nat} {adK adV : Nat → Nat} (F : Nat) (p1 : Int32) (u : St) : CtI l D [(cI, .int), (cZ, .boolean)] (wX ad cI cZ) (EX tBURNS tFLAME_BOUNDS tS adK adV) yX6_casesThatMayBeWon wsX6_casesThatMayBeWon ({ frames := 6, cells := 0, slots := 0, locals := 131 } : Room) [.ref (ad 0), .int p1] u (pX6_casesThatMayBeWon F p1 u) := by
  refine ctI_of (own := RX6) (cc := cX6_casesThatMayBeWon) (n := 4) (ret := (some .int)) (by decide) rfl rfl (Nat.le_of_ble_eq_true rfl) (lv := [(0, .ref (ad 0)), (1, .int p1)]) rfl (fun C => ?_)
  have iX0 : ∀ w ∈ wsX00, w ∈ wsX6_casesThatMayBeWon := fun w h => List.mem_cons_of_mem _ (List.mem_append_right _ (inlX0 w h))
  have iX6 : ∀ w ∈ wsX60, w ∈ wsX6_casesThatMayBeWon := fun w h => List.mem_cons_of_mem _ (List.mem_append_right _ (inlX6 w h))
  rw [pX6_casesThatMayBeWon]
  refine g_iconst C 0 0 dX6_casesThatMayBeWon_0 rfl ?_
  refine g_istore_n C 1 [(2, .int 0), (0, .ref (ad 0)), (1, .int p1)] dX6_casesThatMayBeWon_1 (by decide) rfl ?_
  refine g_iconst C 2 0 dX6_casesThatMayBeWon_2 rfl ?_
  refine g_istore_n C 3 [(3, .int 0), (2, .int 0), (0, .ref (ad 0)), (1, .int p1)] dX6_casesThatMayBeWon_3 (by decide) rfl ?_
  refine g_sub _ [2, 3, 1, 0] rfl ?_
  refine g_lq2 (fun (x1 : Int32) (x2 : Int32) => [(0, .ref (ad 0)), (1, .int p1), (2, .int x1), (3, .int x2)]) (fun self4 hself4 x1 x2 u3 => ?_) F 0 0 u
  rw [bX6_casesThatMayBeWon_4]
  refine g_iload_n C 4 3 dX6_casesThatMayBeWon_4 rfl ?_
  refine g_aload_n C 5 0 dX6_casesThatMayBeWon_5 rfl ?_
  refine gfX_X6_court C 6 iX6 (List.mem_cons_of_mem _ (List.mem_append_right _ wgL_1_15.1)) dX6_casesThatMayBeWon_6 ?_
  refine gfX_X0_cases 0 (by decide) C 9 iX0 (List.mem_cons_of_mem _ (List.mem_append_right _ wgL_18_5.1)) dX6_casesThatMayBeWon_9 ?_
  refine g_icmp_ge C 12 50 dX6_casesThatMayBeWon_12 (by decide) ?_ ?_
  · skip
    refine g_iload_n C 50 2 dX6_casesThatMayBeWon_50 rfl ?_
    exact g_iret C 51 dX6_casesThatMayBeWon_51
  · skip
    refine g_iload_n C 15 2 dX6_casesThatMayBeWon_15 rfl ?_
    refine g_aload_n C 16 0 dX6_casesThatMayBeWon_16 rfl ?_
    refine gfX_X6_court C 17 iX6 (List.mem_cons_of_mem _ (List.mem_append_right _ wgL_1_15.1)) dX6_casesThatMayBeWon_17 ?_
    refine gfX_X0_verdict 0 (by decide) C 20 iX0 (List.mem_cons_of_mem _ (List.mem_append_right _ wgL_18_9.1)) dX6_casesThatMayBeWon_20 ?_
    refine g_iload_n C 23 3 dX6_casesThatMayBeWon_23 rfl ?_
    refine g_iald C 24 (10 + 3) 0 (wX_arr 3 (by decide)) rfl dX6_casesThatMayBeWon_24 ?_
    refine g_jn1 42 (fun (a5 : Int32) => [(0, .ref (ad 0)), (1, .int p1), (3, .int x2)]) (fun (a5 : Int32) => [.int a5, .int x1]) (fun a5 u6 => ?_) (fun J42 hJ42 => ?_)
    · skip
      refine g_iadd C 42 dX6_casesThatMayBeWon_42 ?_
      refine g_istore_nV C 43 (fun v7 => [(2, .int v7), (0, .ref (ad 0)), (1, .int p1), (3, .int x2)]) dX6_casesThatMayBeWon_43 (by decide) (fun _ => rfl) (fun v7 => ?_)
      refine g_iinc C 44 3 [(3, .int (x2 + 1)), (2, .int v7), (0, .ref (ad 0)), (1, .int p1)] dX6_casesThatMayBeWon_44 rfl rfl (by decide) rfl ?_
      refine g_goto C 47 4 dX6_casesThatMayBeWon_47 (by decide) ?_
      exact g_sub _ [2, 3, 1, 0] rfl (hself4 v7 (x2 + 1) u6)
    · skip
      refine g_jn0 41 ([(0, .ref (ad 0)), (1, .int p1), (3, .int x2)]) ([.int x1]) (fun u8 => ?_) (fun J41 hJ41 => ?_)
      · skip
        refine g_iconst C 41 0 dX6_casesThatMayBeWon_41 rfl ?_
        exact g_sub _ [0, 1, 2] rfl (hJ42 0 u8)
      · skip
        refine g_if_ne C 25 41 dX6_casesThatMayBeWon_25 (by decide) ?_ ?_
        · skip
          exact g_sub _ [0, 1, 3] rfl (hJ41 u3)
        · skip
          refine g_aload_n C 28 0 dX6_casesThatMayBeWon_28 rfl ?_
          refine g_iload_n C 29 3 dX6_casesThatMayBeWon_29 rfl ?_
          refine g_iload_n C 30 1 dX6_casesThatMayBeWon_30 rfl ?_
          refine g_callVi (st := [.int x1]) (As := [.int x2, .int p1]) C EX_ok EX_vm 31 0 2 (tX6_judgesFor F x2 p1 u3) rfl gX6_casesThatMayBeWon_X6_judgesFor rfl rfl rfl (by decide +kernel) ⟨Nat.le_of_ble_eq_true rfl, Nat.le_of_ble_eq_true rfl⟩ rfl rfl rfl (Nat.le_of_ble_eq_true rfl) dX6_casesThatMayBeWon_31 (fun r10 u9 => ?_)
          refine g_if_eq C 34 41 dX6_casesThatMayBeWon_34 (by decide) ?_ ?_
          · skip
            exact g_sub _ [0, 1, 3] rfl (hJ41 u9)
          · skip
            refine g_iconst C 37 1 dX6_casesThatMayBeWon_37 rfl ?_
            refine g_goto C 38 42 dX6_casesThatMayBeWon_38 (by decide) ?_
            exact g_sub _ [0, 1, 3] rfl (hJ42 1 u9)
def pJ6_numberOfTrailingZeros_0f7a4 (F : Nat) (p1 : Int32) (u : St) : Option (Int32 × St) :=
  vl ((p1 ^^^ (-1)) &&& (p1 - 1)) (fun v1 => if 0 < v1 then jn (fun (a2 : Int32) (a3 : Int32) (u4 : St) => jn (fun (a5 : Int32) (a6 : Int32) (u7 : St) => jn (fun (a8 : Int32) (a9 : Int32) (u10 : St) => if a8 ≤ 4 then some ((a9 + (ushr a8 1)), u10) else vl (ushr a8 2) (fun v11 => some (((a9 + 2) + (ushr v11 1)), u10))) (fun (J62 : Int32 → Int32 → St → Option (Int32 × St)) => if a5 ≤ 16 then (J62 a5 a6 u7) else vl (ushr a5 4) (fun v12 => (J62 v12 (a6 + 4) u7)))) (fun (J49 : Int32 → Int32 → St → Option (Int32 × St)) => if a2 ≤ 256 then (J49 a2 a3 u4) else vl (ushr a2 8) (fun v13 => (J49 v13 (a3 + 8) u4)))) (fun (J34 : Int32 → Int32 → St → Option (Int32 × St)) => if v1 ≤ 65536 then (J34 v1 1 u) else vl (ushr v1 16) (fun v14 => (J34 v14 (1 + 16) u))) else some ((v1 &&& 32), u))
set_option maxRecDepth 100000 in
set_option maxHeartbeats 4000000 in
theorem tJ6_numberOfTrailingZeros_0f7a4 {l : Launch} {D : va_G} {cI cZ : ClassId} {ad : Nat → Nat} {tBURNS tFLAME_BOUNDS : Nat} {tS : Option Nat} {adK adV : Nat → Nat} (F : Nat) (p1 : Int32) (u : St) : CtI l D [(cI, .int), (cZ, .boolean)] (wX ad cI cZ) (EX tBURNS tFLAME_BOUNDS tS adK adV) yJ6_numberOfTrailingZeros_0f7a4 wsJ6_numberOfTrailingZeros_0f7a4 ({ frames := 0, cells := 0, slots := 0, locals := 0 } : Room) [.int p1] u (pJ6_numberOfTrailingZeros_0f7a4 F p1 u) := by
  refine ctI_of (own := RJ6) (cc := cJ6_numberOfTrailingZeros_0f7a4) (n := 2) (ret := (some .int)) (by decide) rfl rfl (Nat.le_of_ble_eq_true rfl) (lv := [(0, .int p1)]) rfl (fun C => ?_)
  rw [pJ6_numberOfTrailingZeros_0f7a4]
  refine g_iload_n C 0 0 dJ6_numberOfTrailingZeros_0f7a4_0 rfl ?_
  refine g_iconst C 1 (-1) dJ6_numberOfTrailingZeros_0f7a4_1 rfl ?_
  refine g_ixor C 2 dJ6_numberOfTrailingZeros_0f7a4_2 ?_
  refine g_iload_n C 3 0 dJ6_numberOfTrailingZeros_0f7a4_3 rfl ?_
  refine g_iconst C 4 1 dJ6_numberOfTrailingZeros_0f7a4_4 rfl ?_
  refine g_isub C 5 dJ6_numberOfTrailingZeros_0f7a4_5 ?_
  refine g_iand C 6 dJ6_numberOfTrailingZeros_0f7a4_6 ?_
  refine g_istore_nV C 7 (fun v1 => [(0, .int v1)]) dJ6_numberOfTrailingZeros_0f7a4_7 (by decide) (fun _ => rfl) (fun v1 => ?_)
  refine g_iload_n C 8 0 dJ6_numberOfTrailingZeros_0f7a4_8 rfl ?_
  refine g_if_gt C 9 17 dJ6_numberOfTrailingZeros_0f7a4_9 (by decide) ?_ ?_
  · skip
    refine g_iconst C 17 1 dJ6_numberOfTrailingZeros_0f7a4_17 rfl ?_
    refine g_istore_n C 18 [(1, .int 1), (0, .int v1)] dJ6_numberOfTrailingZeros_0f7a4_18 (by decide) rfl ?_
    refine g_iload_n C 19 1 dJ6_numberOfTrailingZeros_0f7a4_19 rfl ?_
    refine g_ldcw C 20 65536 (by decide +kernel) dJ6_numberOfTrailingZeros_0f7a4_20 ?_
    refine g_jn2 34 (fun (a2 : Int32) (a3 : Int32) => [(0, .int a2), (1, .int a3)]) (fun (a2 : Int32) (a3 : Int32) => []) (fun a2 a3 u4 => ?_) (fun J34 hJ34 => ?_)
    · skip
      refine g_iload_n C 34 0 dJ6_numberOfTrailingZeros_0f7a4_34 rfl ?_
      refine g_sipush C 35 256 dJ6_numberOfTrailingZeros_0f7a4_35 rfl ?_
      refine g_jn2 49 (fun (a5 : Int32) (a6 : Int32) => [(0, .int a5), (1, .int a6)]) (fun (a5 : Int32) (a6 : Int32) => []) (fun a5 a6 u7 => ?_) (fun J49 hJ49 => ?_)
      · skip
        refine g_iload_n C 49 0 dJ6_numberOfTrailingZeros_0f7a4_49 rfl ?_
        refine g_bipush C 50 16 dJ6_numberOfTrailingZeros_0f7a4_50 rfl ?_
        refine g_jn2 62 (fun (a8 : Int32) (a9 : Int32) => [(0, .int a8), (1, .int a9)]) (fun (a8 : Int32) (a9 : Int32) => []) (fun a8 a9 u10 => ?_) (fun J62 hJ62 => ?_)
        · skip
          refine g_iload_n C 62 0 dJ6_numberOfTrailingZeros_0f7a4_62 rfl ?_
          refine g_iconst C 63 4 dJ6_numberOfTrailingZeros_0f7a4_63 rfl ?_
          refine g_icmp_le C 64 74 dJ6_numberOfTrailingZeros_0f7a4_64 (by decide) ?_ ?_
          · skip
            refine g_iload_n C 74 1 dJ6_numberOfTrailingZeros_0f7a4_74 rfl ?_
            refine g_iload_n C 75 0 dJ6_numberOfTrailingZeros_0f7a4_75 rfl ?_
            refine g_iconst C 76 1 dJ6_numberOfTrailingZeros_0f7a4_76 rfl ?_
            refine g_iushr C 77 dJ6_numberOfTrailingZeros_0f7a4_77 ?_
            refine g_iadd C 78 dJ6_numberOfTrailingZeros_0f7a4_78 ?_
            exact g_iret C 79 dJ6_numberOfTrailingZeros_0f7a4_79
          · skip
            refine g_iinc C 67 1 [(1, .int (a9 + 2)), (0, .int a8)] dJ6_numberOfTrailingZeros_0f7a4_67 rfl rfl (by decide) rfl ?_
            refine g_iload_n C 70 1 dJ6_numberOfTrailingZeros_0f7a4_70 rfl ?_
            refine g_iconst C 71 2 dJ6_numberOfTrailingZeros_0f7a4_71 rfl ?_
            refine g_iushr C 72 dJ6_numberOfTrailingZeros_0f7a4_72 ?_
            refine g_istore_nV C 73 (fun v11 => [(0, .int v11), (1, .int (a9 + 2))]) dJ6_numberOfTrailingZeros_0f7a4_73 (by decide) (fun _ => rfl) (fun v11 => ?_)
            refine g_iload_n C 74 1 dJ6_numberOfTrailingZeros_0f7a4_74 rfl ?_
            refine g_iload_n C 75 0 dJ6_numberOfTrailingZeros_0f7a4_75 rfl ?_
            refine g_iconst C 76 1 dJ6_numberOfTrailingZeros_0f7a4_76 rfl ?_
            refine g_iushr C 77 dJ6_numberOfTrailingZeros_0f7a4_77 ?_
            refine g_iadd C 78 dJ6_numberOfTrailingZeros_0f7a4_78 ?_
            exact g_iret C 79 dJ6_numberOfTrailingZeros_0f7a4_79
        · skip
          refine g_icmp_le C 52 62 dJ6_numberOfTrailingZeros_0f7a4_52 (by decide) ?_ ?_
          · skip
            exact g_sub _ [0, 1] rfl (hJ62 a5 a6 u7)
          · skip
            refine g_iinc C 55 1 [(1, .int (a6 + 4)), (0, .int a5)] dJ6_numberOfTrailingZeros_0f7a4_55 rfl rfl (by decide) rfl ?_
            refine g_iload_n C 58 1 dJ6_numberOfTrailingZeros_0f7a4_58 rfl ?_
            refine g_iconst C 59 4 dJ6_numberOfTrailingZeros_0f7a4_59 rfl ?_
            refine g_iushr C 60 dJ6_numberOfTrailingZeros_0f7a4_60 ?_
            refine g_istore_nV C 61 (fun v12 => [(0, .int v12), (1, .int (a6 + 4))]) dJ6_numberOfTrailingZeros_0f7a4_61 (by decide) (fun _ => rfl) (fun v12 => ?_)
            exact g_sub _ [0, 1] rfl (hJ62 v12 (a6 + 4) u7)
      · skip
        refine g_icmp_le C 38 49 dJ6_numberOfTrailingZeros_0f7a4_38 (by decide) ?_ ?_
        · skip
          exact g_sub _ [0, 1] rfl (hJ49 a2 a3 u4)
        · skip
          refine g_iinc C 41 1 [(1, .int (a3 + 8)), (0, .int a2)] dJ6_numberOfTrailingZeros_0f7a4_41 rfl rfl (by decide) rfl ?_
          refine g_iload_n C 44 1 dJ6_numberOfTrailingZeros_0f7a4_44 rfl ?_
          refine g_bipush C 45 8 dJ6_numberOfTrailingZeros_0f7a4_45 rfl ?_
          refine g_iushr C 47 dJ6_numberOfTrailingZeros_0f7a4_47 ?_
          refine g_istore_nV C 48 (fun v13 => [(0, .int v13), (1, .int (a3 + 8))]) dJ6_numberOfTrailingZeros_0f7a4_48 (by decide) (fun _ => rfl) (fun v13 => ?_)
          exact g_sub _ [0, 1] rfl (hJ49 v13 (a3 + 8) u4)
    · skip
      refine g_icmp_le C 23 34 dJ6_numberOfTrailingZeros_0f7a4_23 (by decide) ?_ ?_
      · skip
        exact g_sub _ [1, 0] rfl (hJ34 v1 1 u)
      · skip
        refine g_iinc C 26 0 [(1, .int (1 + 16)), (0, .int v1)] dJ6_numberOfTrailingZeros_0f7a4_26 rfl rfl (by decide) rfl ?_
        refine g_iload_n C 29 1 dJ6_numberOfTrailingZeros_0f7a4_29 rfl ?_
        refine g_bipush C 30 16 dJ6_numberOfTrailingZeros_0f7a4_30 rfl ?_
        refine g_iushr C 32 dJ6_numberOfTrailingZeros_0f7a4_32 ?_
        refine g_istore_nV C 33 (fun v14 => [(0, .int v14), (1, .int (1 + 16))]) dJ6_numberOfTrailingZeros_0f7a4_33 (by decide) (fun _ => rfl) (fun v14 => ?_)
        exact g_sub _ [0, 1] rfl (hJ34 v14 (1 + 16) u)
  · skip
    refine g_iload_n C 12 0 dJ6_numberOfTrailingZeros_0f7a4_12 rfl ?_
    refine g_bipush C 13 32 dJ6_numberOfTrailingZeros_0f7a4_13 rfl ?_
    refine g_iand C 15 dJ6_numberOfTrailingZeros_0f7a4_15 ?_
    exact g_iret C 16 dJ6_numberOfTrailingZeros_0f7a4_16
def pX6_bestJudge (F : Nat) (p1 : Int32) (p2 : Int32) (u : St) : Option (Int32 × St) :=
  gd (inb p1 4) (if (u.2 3 (Int32.toNatClampNeg p1)) = 0 then bd (pX6_judgesFor F p1 p2 u) (fun (r2 : Int32) (u1 : St) => if r2 = 0 then some (0, u1) else bd (pJ6_numberOfTrailingZeros_0f7a4 F r2 u1) (fun (r4 : Int32) (u3 : St) => some (r4, u3))) else some ((-4), u))
set_option maxRecDepth 100000 in
set_option maxHeartbeats 4000000 in
theorem tX6_bestJudge {l : Launch} {D : va_G} {cI cZ : ClassId} {ad : Nat → Nat} {tBURNS tFLAME_BOUNDS : Nat} {tS : Option Nat} {adK adV : Nat → Nat} (F : Nat) (p1 : Int32) (p2 : Int32) (u : St) : CtI l D [(cI, .int), (cZ, .boolean)] (wX ad cI cZ) (EX tBURNS tFLAME_BOUNDS tS adK adV) yX6_bestJudge wsX6_bestJudge ({ frames := 6, cells := 0, slots := 0, locals := 131 } : Room) [.ref (ad 0), .int p1, .int p2] u (pX6_bestJudge F p1 p2 u) := by
  refine ctI_of (own := RX6) (cc := cX6_bestJudge) (n := 4) (ret := (some .int)) (by decide) rfl rfl (Nat.le_of_ble_eq_true rfl) (lv := [(0, .ref (ad 0)), (1, .int p1), (2, .int p2)]) rfl (fun C => ?_)
  have iX0 : ∀ w ∈ wsX00, w ∈ wsX6_bestJudge := fun w h => List.mem_cons_of_mem _ (List.mem_append_right _ (inlX0 w h))
  have iX6 : ∀ w ∈ wsX60, w ∈ wsX6_bestJudge := fun w h => List.mem_cons_of_mem _ (List.mem_append_right _ (inlX6 w h))
  rw [pX6_bestJudge]
  refine g_aload_n C 0 0 dX6_bestJudge_0 rfl ?_
  refine gfX_X6_court C 1 iX6 (List.mem_cons_of_mem _ (List.mem_append_right _ wgL_1_15.1)) dX6_bestJudge_1 ?_
  refine gfX_X0_verdict 0 (by decide) C 4 iX0 (List.mem_cons_of_mem _ (List.mem_append_right _ wgL_18_9.1)) dX6_bestJudge_4 ?_
  refine g_iload_n C 7 1 dX6_bestJudge_7 rfl ?_
  refine g_iald C 8 (10 + 3) 0 (wX_arr 3 (by decide)) rfl dX6_bestJudge_8 ?_
  refine g_if_eq C 9 15 dX6_bestJudge_9 (by decide) ?_ ?_
  · skip
    refine g_aload_n C 15 0 dX6_bestJudge_15 rfl ?_
    refine g_iload_n C 16 1 dX6_bestJudge_16 rfl ?_
    refine g_iload_n C 17 2 dX6_bestJudge_17 rfl ?_
    refine g_callVi (st := []) (As := [.int p1, .int p2]) C EX_ok EX_vm 18 0 2 (tX6_judgesFor F p1 p2 u) rfl gX6_bestJudge_X6_judgesFor rfl rfl rfl (by decide +kernel) ⟨Nat.le_of_ble_eq_true rfl, Nat.le_of_ble_eq_true rfl⟩ rfl rfl rfl (Nat.le_of_ble_eq_true rfl) dX6_bestJudge_18 (fun r2 u1 => ?_)
    refine g_istore_n C 21 [(3, .int r2), (0, .ref (ad 0)), (1, .int p1), (2, .int p2)] dX6_bestJudge_21 (by decide) rfl ?_
    refine g_iload_n C 22 0 dX6_bestJudge_22 rfl ?_
    refine g_if_ne C 23 30 dX6_bestJudge_23 (by decide) ?_ ?_
    · skip
      refine g_iload_n C 30 0 dX6_bestJudge_30 rfl ?_
      refine g_callSi (st := []) (As := [.int r2]) C EX_ok EX_vm 31 1 (tJ6_numberOfTrailingZeros_0f7a4 F r2 u1) rfl gX6_bestJudge_J6_numberOfTrailingZeros_0f7a4 rfl rfl rfl (by decide +kernel) ⟨Nat.le_of_ble_eq_true rfl, Nat.le_of_ble_eq_true rfl⟩ rfl (Nat.le_of_ble_eq_true rfl) dX6_bestJudge_31 (fun r4 u3 => ?_)
      exact g_iret C 34 dX6_bestJudge_34
    · skip
      refine g_iconst C 26 0 dX6_bestJudge_26 rfl ?_
      refine g_goto C 27 34 dX6_bestJudge_27 (by decide) ?_
      exact g_iret C 34 dX6_bestJudge_34
  · skip
    refine g_bipush C 12 (-4) dX6_bestJudge_12 rfl ?_
    exact g_iret C 14 dX6_bestJudge_14
def pX6_share (F : Nat) (p1 : Int32) (p2 : Int32) (u : St) : Option (Int32 × St) :=
  bd (pX6_isSide F p1 u) (fun (r2 : Int32) (u1 : St) => if r2 = 0 then some ((-1), u1) else jn (fun (u3 : St) => if (u3.1 1) = 0 then some ((-4), u3) else if p2 = 0 then bd (pX6_casesThatMayBeWon F p1 u3) (fun (r7 : Int32) (u6 : St) => some (r7, u6)) else bd (pX6_bestJudge F (p2 - 10) p1 u3) (fun (r5 : Int32) (u4 : St) => some (r5, u4))) (fun (J29 : St → Option (Int32 × St)) => if p2 = 0 then (J29 u1) else bd (pX0_hasCase F 0 ((Int32.toInt64 p2) - 10) u1) (fun (r9 : Int32) (u8 : St) => if r9 = 0 then some ((-1), u8) else (J29 u8))))
set_option maxRecDepth 100000 in
set_option maxHeartbeats 4000000 in
theorem tX6_share {l : Launch} {D : va_G} {cI cZ : ClassId} {ad : Nat → Nat} {tBURNS tFLAME_BOUNDS : Nat} {tS : Option Nat} {adK adV : Nat → Nat} (F : Nat) (p1 : Int32) (p2 : Int32) (u : St) : CtI l D [(cI, .int), (cZ, .boolean)] (wX ad cI cZ) (EX tBURNS tFLAME_BOUNDS tS adK adV) yX6_share wsX6_share ({ frames := 7, cells := 0, slots := 0, locals := 154 } : Room) [.ref (ad 0), .int p1, .int p2] u (pX6_share F p1 p2 u) := by
  refine ctI_of (own := RX6) (cc := cX6_share) (n := 3) (ret := (some .int)) (by decide) rfl rfl (Nat.le_of_ble_eq_true rfl) (lv := [(0, .ref (ad 0)), (1, .int p1), (2, .int p2)]) rfl (fun C => ?_)
  have iX0 : ∀ w ∈ wsX00, w ∈ wsX6_share := fun w h => List.mem_cons_of_mem _ (List.mem_append_right _ (inlX0 w h))
  have iX6 : ∀ w ∈ wsX60, w ∈ wsX6_share := fun w h => List.mem_cons_of_mem _ (List.mem_append_right _ (inlX6 w h))
  rw [pX6_share]
  refine g_iload_n C 0 1 dX6_share_0 rfl ?_
  refine g_callSi (st := []) (As := [.int p1]) C EX_ok EX_vm 1 1 (tX6_isSide F p1 u) rfl gX6_share_X6_isSide rfl rfl rfl (by decide +kernel) ⟨Nat.le_of_ble_eq_true rfl, Nat.le_of_ble_eq_true rfl⟩ rfl (Nat.le_of_ble_eq_true rfl) dX6_share_1 (fun r2 u1 => ?_)
  refine g_if_eq C 4 27 dX6_share_4 (by decide) ?_ ?_
  · skip
    refine g_iconst C 27 (-1) dX6_share_27 rfl ?_
    exact g_iret C 28 dX6_share_28
  · skip
    refine g_iload_n C 7 2 dX6_share_7 rfl ?_
    refine g_jn0 29 ([(0, .ref (ad 0)), (1, .int p1), (2, .int p2)]) ([]) (fun u3 => ?_) (fun J29 hJ29 => ?_)
    · skip
      refine g_aload_n C 29 0 dX6_share_29 rfl ?_
      refine gfX_X6_court C 30 iX6 (List.mem_cons_of_mem _ (List.mem_append_right _ wgL_1_15.1)) dX6_share_30 ?_
      refine gfX_X0_judges 0 (by decide) C 33 iX0 (List.mem_cons_of_mem _ (List.mem_append_right _ wgL_18_6.1)) dX6_share_33 ?_
      refine g_if_ne C 36 42 dX6_share_36 (by decide) ?_ ?_
      · skip
        refine g_iload_n C 42 2 dX6_share_42 rfl ?_
        refine g_if_ne C 43 54 dX6_share_43 (by decide) ?_ ?_
        · skip
          refine g_aload_n C 54 0 dX6_share_54 rfl ?_
          refine g_iload_n C 55 2 dX6_share_55 rfl ?_
          refine g_bipush C 56 10 dX6_share_56 rfl ?_
          refine g_isub C 58 dX6_share_58 ?_
          refine g_iload_n C 59 1 dX6_share_59 rfl ?_
          refine g_callVi (st := []) (As := [.int (p2 - 10), .int p1]) C EX_ok EX_vm 60 0 2 (tX6_bestJudge F (p2 - 10) p1 u3) rfl gX6_share_X6_bestJudge rfl rfl rfl (by decide +kernel) ⟨Nat.le_of_ble_eq_true rfl, Nat.le_of_ble_eq_true rfl⟩ rfl rfl rfl (Nat.le_of_ble_eq_true rfl) dX6_share_60 (fun r5 u4 => ?_)
          exact g_iret C 63 dX6_share_63
        · skip
          refine g_aload_n C 46 0 dX6_share_46 rfl ?_
          refine g_iload_n C 47 1 dX6_share_47 rfl ?_
          refine g_callVi (st := []) (As := [.int p1]) C EX_ok EX_vm 48 0 1 (tX6_casesThatMayBeWon F p1 u3) rfl gX6_share_X6_casesThatMayBeWon rfl rfl rfl (by decide +kernel) ⟨Nat.le_of_ble_eq_true rfl, Nat.le_of_ble_eq_true rfl⟩ rfl rfl rfl (Nat.le_of_ble_eq_true rfl) dX6_share_48 (fun r7 u6 => ?_)
          refine g_goto C 51 63 dX6_share_51 (by decide) ?_
          exact g_iret C 63 dX6_share_63
      · skip
        refine g_bipush C 39 (-4) dX6_share_39 rfl ?_
        exact g_iret C 41 dX6_share_41
    · skip
      refine g_if_eq C 8 29 dX6_share_8 (by decide) ?_ ?_
      · skip
        exact g_sub _ [0, 1, 2] rfl (hJ29 u1)
      · skip
        refine g_aload_n C 11 0 dX6_share_11 rfl ?_
        refine gfX_X6_court C 12 iX6 (List.mem_cons_of_mem _ (List.mem_append_right _ wgL_1_15.1)) dX6_share_12 ?_
        refine g_iload_n C 15 2 dX6_share_15 rfl ?_
        refine g_i2l C 16 dX6_share_16 ?_
        refine g_ldc2 C 17 10 (by decide +kernel) dX6_share_17 ?_
        refine g_lsub C 20 dX6_share_20 ?_
        refine g_callVi (st := []) (As := [.long ((Int32.toInt64 p2) - 10)]) C EX_ok EX_vm 21 1 1 (tX0_hasCase F 0 (by decide) ((Int32.toInt64 p2) - 10) u1) rfl gX6_share_X0_hasCase rfl rfl rfl (by decide +kernel) ⟨Nat.le_of_ble_eq_true rfl, Nat.le_of_ble_eq_true rfl⟩ (wX_X0 ad cI cZ _ 0 (by decide)) rfl rfl (Nat.le_of_ble_eq_true rfl) dX6_share_21 (fun r9 u8 => ?_)
        refine g_if_ne C 24 29 dX6_share_24 (by decide) ?_ ?_
        · skip
          exact g_sub _ [0, 1, 2] rfl (hJ29 u8)
        · skip
          refine g_iconst C 27 (-1) dX6_share_27 rfl ?_
          exact g_iret C 28 dX6_share_28
def pJ6_bitCount_0f7a4 (F : Nat) (p1 : Int32) (u : St) : Option (Int32 × St) :=
  vl (p1 - ((ushr p1 1) &&& 1431655765)) (fun v1 => vl ((v1 &&& 858993459) + ((ushr v1 2) &&& 858993459)) (fun v2 => vl ((v2 + (ushr v2 4)) &&& 252645135) (fun v3 => vl (v3 + (ushr v3 8)) (fun v4 => vl (v4 + (ushr v4 16)) (fun v5 => some ((v5 &&& 63), u))))))
set_option maxRecDepth 100000 in
set_option maxHeartbeats 4000000 in
theorem tJ6_bitCount_0f7a4 {l : Launch} {D : va_G} {cI cZ : ClassId} {ad : Nat → Nat} {tBURNS tFLAME_BOUNDS : Nat} {tS : Option Nat} {adK adV : Nat → Nat} (F : Nat) (p1 : Int32) (u : St) : CtI l D [(cI, .int), (cZ, .boolean)] (wX ad cI cZ) (EX tBURNS tFLAME_BOUNDS tS adK adV) yJ6_bitCount_0f7a4 wsJ6_bitCount_0f7a4 ({ frames := 0, cells := 0, slots := 0, locals := 0 } : Room) [.int p1] u (pJ6_bitCount_0f7a4 F p1 u) := by
  refine ctI_of (own := RJ6) (cc := cJ6_bitCount_0f7a4) (n := 1) (ret := (some .int)) (by decide) rfl rfl (Nat.le_of_ble_eq_true rfl) (lv := [(0, .int p1)]) rfl (fun C => ?_)
  rw [pJ6_bitCount_0f7a4]
  refine g_iload_n C 0 0 dJ6_bitCount_0f7a4_0 rfl ?_
  refine g_iload_n C 1 0 dJ6_bitCount_0f7a4_1 rfl ?_
  refine g_iconst C 2 1 dJ6_bitCount_0f7a4_2 rfl ?_
  refine g_iushr C 3 dJ6_bitCount_0f7a4_3 ?_
  refine g_ldcw C 4 1431655765 (by decide +kernel) dJ6_bitCount_0f7a4_4 ?_
  refine g_iand C 7 dJ6_bitCount_0f7a4_7 ?_
  refine g_isub C 8 dJ6_bitCount_0f7a4_8 ?_
  refine g_istore_nV C 9 (fun v1 => [(0, .int v1)]) dJ6_bitCount_0f7a4_9 (by decide) (fun _ => rfl) (fun v1 => ?_)
  refine g_iload_n C 10 0 dJ6_bitCount_0f7a4_10 rfl ?_
  refine g_ldcw C 11 858993459 (by decide +kernel) dJ6_bitCount_0f7a4_11 ?_
  refine g_iand C 14 dJ6_bitCount_0f7a4_14 ?_
  refine g_iload_n C 15 0 dJ6_bitCount_0f7a4_15 rfl ?_
  refine g_iconst C 16 2 dJ6_bitCount_0f7a4_16 rfl ?_
  refine g_iushr C 17 dJ6_bitCount_0f7a4_17 ?_
  refine g_ldcw C 18 858993459 (by decide +kernel) dJ6_bitCount_0f7a4_18 ?_
  refine g_iand C 21 dJ6_bitCount_0f7a4_21 ?_
  refine g_iadd C 22 dJ6_bitCount_0f7a4_22 ?_
  refine g_istore_nV C 23 (fun v2 => [(0, .int v2)]) dJ6_bitCount_0f7a4_23 (by decide) (fun _ => rfl) (fun v2 => ?_)
  refine g_iload_n C 24 0 dJ6_bitCount_0f7a4_24 rfl ?_
  refine g_iload_n C 25 0 dJ6_bitCount_0f7a4_25 rfl ?_
  refine g_iconst C 26 4 dJ6_bitCount_0f7a4_26 rfl ?_
  refine g_iushr C 27 dJ6_bitCount_0f7a4_27 ?_
  refine g_iadd C 28 dJ6_bitCount_0f7a4_28 ?_
  refine g_ldcw C 29 252645135 (by decide +kernel) dJ6_bitCount_0f7a4_29 ?_
  refine g_iand C 32 dJ6_bitCount_0f7a4_32 ?_
  refine g_istore_nV C 33 (fun v3 => [(0, .int v3)]) dJ6_bitCount_0f7a4_33 (by decide) (fun _ => rfl) (fun v3 => ?_)
  refine g_iload_n C 34 0 dJ6_bitCount_0f7a4_34 rfl ?_
  refine g_iload_n C 35 0 dJ6_bitCount_0f7a4_35 rfl ?_
  refine g_bipush C 36 8 dJ6_bitCount_0f7a4_36 rfl ?_
  refine g_iushr C 38 dJ6_bitCount_0f7a4_38 ?_
  refine g_iadd C 39 dJ6_bitCount_0f7a4_39 ?_
  refine g_istore_nV C 40 (fun v4 => [(0, .int v4)]) dJ6_bitCount_0f7a4_40 (by decide) (fun _ => rfl) (fun v4 => ?_)
  refine g_iload_n C 41 0 dJ6_bitCount_0f7a4_41 rfl ?_
  refine g_iload_n C 42 0 dJ6_bitCount_0f7a4_42 rfl ?_
  refine g_bipush C 43 16 dJ6_bitCount_0f7a4_43 rfl ?_
  refine g_iushr C 45 dJ6_bitCount_0f7a4_45 ?_
  refine g_iadd C 46 dJ6_bitCount_0f7a4_46 ?_
  refine g_istore_nV C 47 (fun v5 => [(0, .int v5)]) dJ6_bitCount_0f7a4_47 (by decide) (fun _ => rfl) (fun v5 => ?_)
  refine g_iload_n C 48 0 dJ6_bitCount_0f7a4_48 rfl ?_
  refine g_bipush C 49 63 dJ6_bitCount_0f7a4_49 rfl ?_
  refine g_iand C 51 dJ6_bitCount_0f7a4_51 ?_
  exact g_iret C 52 dJ6_bitCount_0f7a4_52
def pX6_wonByDocket (F : Nat) (p1 : Int32) (p2 : Int32) (u : St) : Option (Int32 × St) :=
  bd (pX3_goByDocket F p2 u) (fun (_ : Unit) (u1 : St) => bd (pX6_bitsOf F 59 (u1.1 0) (p1 + 1) u1) (fun (r3 : Int32) (u2 : St) => bd (pJ6_bitCount_0f7a4 F r3 u2) (fun (r5 : Int32) (u4 : St) => some (r5, u4))))
set_option maxRecDepth 100000 in
set_option maxHeartbeats 4000000 in
theorem tX6_wonByDocket {l : Launch} {D : va_G} {cI cZ : ClassId} {ad : Nat → Nat} {tBURNS tFLAME_BOUNDS : Nat} {tS : Option Nat} {adK adV : Nat → Nat} (F : Nat) (p1 : Int32) (p2 : Int32) (u : St) : CtI l D [(cI, .int), (cZ, .boolean)] (wX ad cI cZ) (EX tBURNS tFLAME_BOUNDS tS adK adV) yX6_wonByDocket wsX6_wonByDocket ({ frames := 4, cells := 0, slots := 0, locals := 87 } : Room) [.ref (ad 0), .int p1, .int p2] u (pX6_wonByDocket F p1 p2 u) := by
  refine ctI_of (own := RX6) (cc := cX6_wonByDocket) (n := 3) (ret := (some .int)) (by decide) rfl rfl (Nat.le_of_ble_eq_true rfl) (lv := [(0, .ref (ad 0)), (1, .int p1), (2, .int p2)]) rfl (fun C => ?_)
  have iX0 : ∀ w ∈ wsX00, w ∈ wsX6_wonByDocket := fun w h => List.mem_cons_of_mem _ (List.mem_append_right _ (inlX0 w h))
  have iX3 : ∀ w ∈ wsX30, w ∈ wsX6_wonByDocket := fun w h => List.mem_cons_of_mem _ (List.mem_append_right _ (inlX3 w h))
  have iX6 : ∀ w ∈ wsX60, w ∈ wsX6_wonByDocket := fun w h => List.mem_cons_of_mem _ (List.mem_append_right _ (inlX6 w h))
  rw [pX6_wonByDocket]
  refine g_aload_n C 0 0 dX6_wonByDocket_0 rfl ?_
  refine gfX_X6_round C 1 iX6 (List.mem_cons_of_mem _ (List.mem_append_right _ wgL_2_7.1)) dX6_wonByDocket_1 ?_
  refine g_aload_n C 4 0 dX6_wonByDocket_4 rfl ?_
  refine gfX_X6_court C 5 iX6 (List.mem_cons_of_mem _ (List.mem_append_right _ wgL_1_15.1)) dX6_wonByDocket_5 ?_
  refine g_aload_n C 8 0 dX6_wonByDocket_8 rfl ?_
  refine gfX_X6_trial C 9 iX6 (List.mem_cons_of_mem _ (List.mem_append_right _ wgL_2_3.1)) dX6_wonByDocket_9 ?_
  refine g_iload_n C 12 2 dX6_wonByDocket_12 rfl ?_
  refine g_callVv (st := []) (As := [.ref (ad 1), .ref (ad 6), .int p2]) C EX_ok EX_vm 13 7 3 (tX3_goByDocket F p2 u) rfl gX6_wonByDocket_X3_goByDocket rfl rfl rfl (by decide +kernel) ⟨Nat.le_of_ble_eq_true rfl, Nat.le_of_ble_eq_true rfl⟩ rfl rfl rfl (Nat.le_of_ble_eq_true rfl) dX6_wonByDocket_13 (fun u1 => ?_)
  refine g_aload_n C 16 0 dX6_wonByDocket_16 rfl ?_
  refine gfX_X6_round C 17 iX6 (List.mem_cons_of_mem _ (List.mem_append_right _ wgL_2_7.1)) dX6_wonByDocket_17 ?_
  refine gfX_X3_verdict C 20 iX3 (List.mem_cons_of_mem _ (List.mem_append_right _ wgL_30_0.1)) dX6_wonByDocket_20 ?_
  refine g_aload_n C 23 0 dX6_wonByDocket_23 rfl ?_
  refine gfX_X6_court C 24 iX6 (List.mem_cons_of_mem _ (List.mem_append_right _ wgL_1_15.1)) dX6_wonByDocket_24 ?_
  refine gfX_X0_cases 0 (by decide) C 27 iX0 (List.mem_cons_of_mem _ (List.mem_append_right _ wgL_18_5.1)) dX6_wonByDocket_27 ?_
  refine g_iload_n C 30 1 dX6_wonByDocket_30 rfl ?_
  refine g_iconst C 31 1 dX6_wonByDocket_31 rfl ?_
  refine g_iadd C 32 dX6_wonByDocket_32 ?_
  refine g_callSi (st := []) (As := [.ref (ad (10 + 59)), .int (u1.1 0), .int (p1 + 1)]) C EX_ok EX_vm 33 3 (tX6_bitsOf F 59 (by decide) (u1.1 0) (p1 + 1) u1) rfl gX6_wonByDocket_X6_bitsOf rfl rfl rfl (by decide +kernel) ⟨Nat.le_of_ble_eq_true rfl, Nat.le_of_ble_eq_true rfl⟩ rfl (Nat.le_of_ble_eq_true rfl) dX6_wonByDocket_33 (fun r3 u2 => ?_)
  refine g_callSi (st := []) (As := [.int r3]) C EX_ok EX_vm 36 1 (tJ6_bitCount_0f7a4 F r3 u2) rfl gX6_wonByDocket_J6_bitCount_0f7a4 rfl rfl rfl (by decide +kernel) ⟨Nat.le_of_ble_eq_true rfl, Nat.le_of_ble_eq_true rfl⟩ rfl (Nat.le_of_ble_eq_true rfl) dX6_wonByDocket_36 (fun r5 u4 => ?_)
  exact g_iret C 39 dX6_wonByDocket_39
def pX0_changeDocketJudges (F : Nat) (j : Nat) (p1 : Int32) (p2 : Int32) (u : St) : Option (Unit × St) :=
  gd (inb p1 6) (vl (u.2 (13 * j + 12) (Int32.toNatClampNeg p1)) (fun v1 => gd (inb p2 6) (gd (inb p1 6) (vl (sta u (13 * j + 12) p1 (u.2 (13 * j + 12) (Int32.toNatClampNeg p2))) (fun (u2 : St) => gd (inb p2 6) (vl (sta u2 (13 * j + 12) p2 v1) (fun (u3 : St) => some ((), u3))))))))
set_option maxRecDepth 100000 in
set_option maxHeartbeats 4000000 in
theorem tX0_changeDocketJudges {l : Launch} {D : va_G} {cI cZ : ClassId} {ad : Nat → Nat} {tBURNS tFLAME_BOUNDS : Nat} {tS : Option Nat} {adK adV : Nat → Nat} (F : Nat) (j : Nat) (hj : j < 4) (p1 : Int32) (p2 : Int32) (u : St) : CtV l D [(cI, .int), (cZ, .boolean)] (wX ad cI cZ) (EX tBURNS tFLAME_BOUNDS tS adK adV) yX0_changeDocketJudges wsX0_changeDocketJudges ({ frames := 0, cells := 0, slots := 0, locals := 0 } : Room) [.ref (ad (1 + j)), .int p1, .int p2] u (pX0_changeDocketJudges F j p1 p2 u) := by
  refine ctV_of (own := RX0) (cc := cX0_changeDocketJudges) (n := 4) (ret := none) (by decide) rfl rfl (Nat.le_of_ble_eq_true rfl) (lv := [(0, .ref (ad (1 + j))), (1, .int p1), (2, .int p2)]) rfl (fun C => ?_)
  have iX0 : ∀ w ∈ wsX00, w ∈ wsX0_changeDocketJudges := fun w h => List.mem_cons_of_mem _ (List.mem_append_right _ (inlX0 w h))
  rw [pX0_changeDocketJudges]
  refine g_aload_n C 0 0 dX0_changeDocketJudges_0 rfl ?_
  refine gfX_X0_docketJudge j hj C 1 iX0 (List.mem_cons_of_mem _ (List.mem_append_right _ wgL_3_15.1)) dX0_changeDocketJudges_1 ?_
  refine g_iload_n C 4 1 dX0_changeDocketJudges_4 rfl ?_
  refine g_iald C 5 (10 + (13 * j + 12)) 0 (wX_X0_docketJudge j hj) rfl dX0_changeDocketJudges_5 ?_
  refine g_istore_nV C 6 (fun v1 => [(3, .int v1), (0, .ref (ad (1 + j))), (1, .int p1), (2, .int p2)]) dX0_changeDocketJudges_6 (by decide) (fun _ => rfl) (fun v1 => ?_)
  refine g_aload_n C 7 1 dX0_changeDocketJudges_7 rfl ?_
  refine gfX_X0_docketJudge j hj C 8 iX0 (List.mem_cons_of_mem _ (List.mem_append_right _ wgL_3_15.1)) dX0_changeDocketJudges_8 ?_
  refine g_iload_n C 11 2 dX0_changeDocketJudges_11 rfl ?_
  refine g_aload_n C 12 1 dX0_changeDocketJudges_12 rfl ?_
  refine gfX_X0_docketJudge j hj C 13 iX0 (List.mem_cons_of_mem _ (List.mem_append_right _ wgL_3_15.1)) dX0_changeDocketJudges_13 ?_
  refine g_iload_n C 16 3 dX0_changeDocketJudges_16 rfl ?_
  refine g_iald C 17 (10 + (13 * j + 12)) 0 (wX_X0_docketJudge j hj) rfl dX0_changeDocketJudges_17 ?_
  refine g_iast C 18 (10 + (13 * j + 12)) 0 (13 * j + 12) (wX_X0_docketJudge j hj) (wX_X0_docketJudge_set j hj) rfl dX0_changeDocketJudges_18 (fun u2 => ?_)
  refine g_aload_n C 19 1 dX0_changeDocketJudges_19 rfl ?_
  refine gfX_X0_docketJudge j hj C 20 iX0 (List.mem_cons_of_mem _ (List.mem_append_right _ wgL_3_15.1)) dX0_changeDocketJudges_20 ?_
  refine g_iload_n C 23 3 dX0_changeDocketJudges_23 rfl ?_
  refine g_iload_n C 24 0 dX0_changeDocketJudges_24 rfl ?_
  refine g_iast C 25 (10 + (13 * j + 12)) 0 (13 * j + 12) (wX_X0_docketJudge j hj) (wX_X0_docketJudge_set j hj) rfl dX0_changeDocketJudges_25 (fun u3 => ?_)
  exact g_vret C 26 dX0_changeDocketJudges_26
def jX6_swap_124 (F : Nat) (p2 : Int32) (a7 : Int32) (a8 : Int32) (u9 : St) : Option (Int32 × St) :=
  if a8 = (-4) then some (a8, u9) else if p2 = 0 then some (a8, u9) else some (a7, u9)
def jX6_swap_118 (F : Nat) (x12 : Int32) (self14 : Int32 → Int32 → Int32 → St → Option (Int32 × St)) (a16 : Int32) (a17 : Int32) (u18 : St) : Option (Int32 × St) :=
  (self14 a16 a17 (x12 + 1) u18)
def bX6_swap_51 (F : Nat) (p1 : Int32) (x12 : Int32) (J118 : Int32 → Int32 → St → Option (Int32 × St)) (self23 : Int32 → Int32 → Int32 → St → Option (Int32 × St)) (x19 : Int32) (x20 : Int32) (x21 : Int32) (u22 : St) : Option (Int32 × St) :=
  if (u22.1 3) ≤ x21 then (J118 x19 x20 u22) else bd (pX0_changeDocketJudges F 0 x12 x21 u22) (fun (_ : Unit) (u24 : St) => bd (pX6_wonByDocket F p1 0 u24) (fun (r26 : Int32) (u25 : St) => bd (pX0_changeDocketJudges F 0 x12 x21 u25) (fun (_ : Unit) (u27 : St) => jn (fun (a28 : Int32) (a29 : Int32) (u30 : St) => (self23 a28 a29 (x21 + 1) u30)) (fun (J112 : Int32 → Int32 → St → Option (Int32 × St)) => if r26 ≤ x19 then (J112 x19 x20 u27) else vl ((10 * x12) + x21) (fun v31 => (J112 r26 v31 u27))))))
def bX6_swap_33 (F : Nat) (p1 : Int32) (J124 : Int32 → Int32 → St → Option (Int32 × St)) (self14 : Int32 → Int32 → Int32 → St → Option (Int32 × St)) (x10 : Int32) (x11 : Int32) (x12 : Int32) (u13 : St) : Option (Int32 × St) :=
  if (u13.1 3) ≤ x12 then (J124 x10 x11 u13) else vl (x12 + 1) (fun v15 => jn (jX6_swap_118 F x12 self14) (fun (J118 : Int32 → Int32 → St → Option (Int32 × St)) => (lq3 (bX6_swap_51 F p1 x12 J118) F x10 x11 v15 u13)))
def pX6_swap (F : Nat) (p1 : Int32) (p2 : Int32) (u : St) : Option (Int32 × St) :=
  bd (pX6_isSide F p1 u) (fun (r2 : Int32) (u1 : St) => if r2 = 0 then some ((-1), u1) else bd (pX6_isIn F (Int32.toInt64 p2) 0 1 u1) (fun (r4 : Int32) (u3 : St) => if r4 = 0 then some ((-1), u3) else bd (pX6_wonByDocket F p1 0 u3) (fun (r6 : Int32) (u5 : St) => jn (jX6_swap_124 F p2) (fun (J124 : Int32 → Int32 → St → Option (Int32 × St)) => (lq3 (bX6_swap_33 F p1 J124) F r6 (-4) 0 u5)))))
set_option maxRecDepth 100000 in
set_option maxHeartbeats 4000000 in
theorem tX6_swap {l : Launch} {D : va_G} {cI cZ : ClassId} {ad : Nat → Nat} {tBURNS tFLAME_BOUNDS : Nat} {tS : Option Nat} {adK adV : Nat → Nat} (F : Nat) (p1 : Int32) (p2 : Int32) (u : St) : CtI l D [(cI, .int), (cZ, .boolean)] (wX ad cI cZ) (EX tBURNS tFLAME_BOUNDS tS adK adV) yX6_swap wsX6_swap ({ frames := 5, cells := 0, slots := 0, locals := 109 } : Room) [.ref (ad 0), .int p1, .int p2] u (pX6_swap F p1 p2 u) := by
  refine ctI_of (own := RX6) (cc := cX6_swap) (n := 8) (ret := (some .int)) (by decide) rfl rfl (Nat.le_of_ble_eq_true rfl) (lv := [(0, .ref (ad 0)), (1, .int p1), (2, .int p2)]) rfl (fun C => ?_)
  have iX0 : ∀ w ∈ wsX00, w ∈ wsX6_swap := fun w h => List.mem_cons_of_mem _ (List.mem_append_right _ (inlX0 w h))
  have iX6 : ∀ w ∈ wsX60, w ∈ wsX6_swap := fun w h => List.mem_cons_of_mem _ (List.mem_append_right _ (inlX6 w h))
  rw [pX6_swap]
  refine g_iload_n C 0 1 dX6_swap_0 rfl ?_
  refine g_callSi (st := []) (As := [.int p1]) C EX_ok EX_vm 1 1 (tX6_isSide F p1 u) rfl gX6_swap_X6_isSide rfl rfl rfl (by decide +kernel) ⟨Nat.le_of_ble_eq_true rfl, Nat.le_of_ble_eq_true rfl⟩ rfl (Nat.le_of_ble_eq_true rfl) dX6_swap_1 (fun r2 u1 => ?_)
  refine g_if_eq C 4 17 dX6_swap_4 (by decide) ?_ ?_
  · skip
    refine g_iconst C 17 (-1) dX6_swap_17 rfl ?_
    exact g_iret C 18 dX6_swap_18
  · skip
    refine g_iload_n C 7 2 dX6_swap_7 rfl ?_
    refine g_i2l C 8 dX6_swap_8 ?_
    refine g_iconst C 9 0 dX6_swap_9 rfl ?_
    refine g_iconst C 10 1 dX6_swap_10 rfl ?_
    refine g_callSi (st := []) (As := [.long (Int32.toInt64 p2), .int 0, .int 1]) C EX_ok EX_vm 11 3 (tX6_isIn F (Int32.toInt64 p2) 0 1 u1) rfl gX6_swap_X6_isIn rfl rfl rfl (by decide +kernel) ⟨Nat.le_of_ble_eq_true rfl, Nat.le_of_ble_eq_true rfl⟩ rfl (Nat.le_of_ble_eq_true rfl) dX6_swap_11 (fun r4 u3 => ?_)
    refine g_if_ne C 14 19 dX6_swap_14 (by decide) ?_ ?_
    · skip
      refine g_aload_n C 19 0 dX6_swap_19 rfl ?_
      refine g_iload_n C 20 1 dX6_swap_20 rfl ?_
      refine g_iconst C 21 0 dX6_swap_21 rfl ?_
      refine g_callVi (st := []) (As := [.int p1, .int 0]) C EX_ok EX_vm 22 0 2 (tX6_wonByDocket F p1 0 u3) rfl gX6_swap_X6_wonByDocket rfl rfl rfl (by decide +kernel) ⟨Nat.le_of_ble_eq_true rfl, Nat.le_of_ble_eq_true rfl⟩ rfl rfl rfl (Nat.le_of_ble_eq_true rfl) dX6_swap_22 (fun r6 u5 => ?_)
      refine g_istore_n C 25 [(3, .int r6), (0, .ref (ad 0)), (1, .int p1), (2, .int p2)] dX6_swap_25 (by decide) rfl ?_
      refine g_bipush C 26 (-4) dX6_swap_26 rfl ?_
      refine g_istore C 28 [(4, .int (-4)), (3, .int r6), (0, .ref (ad 0)), (1, .int p1), (2, .int p2)] dX6_swap_28 (by decide) rfl ?_
      refine g_iconst C 30 0 dX6_swap_30 rfl ?_
      refine g_istore C 31 [(5, .int 0), (4, .int (-4)), (3, .int r6), (0, .ref (ad 0)), (1, .int p1), (2, .int p2)] dX6_swap_31 (by decide) rfl ?_
      refine g_jn2 124 (fun (a7 : Int32) (a8 : Int32) => [(2, .int p2), (3, .int a7), (4, .int a8)]) (fun (a7 : Int32) (a8 : Int32) => []) (fun a7 a8 u9 => ?_) (fun J124 hJ124 => ?_)
      · skip
        rw [jX6_swap_124]
        refine g_iload C 124 2 dX6_swap_124 rfl ?_
        refine g_bipush C 126 (-4) dX6_swap_126 rfl ?_
        refine g_icmp_eq C 128 135 dX6_swap_128 (by decide) ?_ ?_
        · skip
          refine g_iload C 135 2 dX6_swap_135 rfl ?_
          refine g_goto C 137 141 dX6_swap_137 (by decide) ?_
          exact g_iret C 141 dX6_swap_141
        · skip
          refine g_iload_n C 131 0 dX6_swap_131 rfl ?_
          refine g_if_ne C 132 140 dX6_swap_132 (by decide) ?_ ?_
          · skip
            refine g_iload_n C 140 1 dX6_swap_140 rfl ?_
            exact g_iret C 141 dX6_swap_141
          · skip
            refine g_iload C 135 2 dX6_swap_135 rfl ?_
            refine g_goto C 137 141 dX6_swap_137 (by decide) ?_
            exact g_iret C 141 dX6_swap_141
      · skip
        refine g_sub _ [3, 4, 5, 2, 1, 0] rfl ?_
        refine g_lq3 (fun (x10 : Int32) (x11 : Int32) (x12 : Int32) => [(0, .ref (ad 0)), (1, .int p1), (2, .int p2), (3, .int x10), (4, .int x11), (5, .int x12)]) (fun self14 hself14 x10 x11 x12 u13 => ?_) F r6 (-4) 0 u5
        rw [bX6_swap_33]
        refine g_iload C 33 5 dX6_swap_33 rfl ?_
        refine g_aload_n C 35 0 dX6_swap_35 rfl ?_
        refine gfX_X6_court C 36 iX6 (List.mem_cons_of_mem _ (List.mem_append_right _ wgL_1_15.1)) dX6_swap_36 ?_
        refine gfX_X0_hearings 0 (by decide) C 39 iX0 (List.mem_cons_of_mem _ (List.mem_append_right _ wgL_18_8.1)) dX6_swap_39 ?_
        refine g_icmp_ge C 42 124 dX6_swap_42 (by decide) ?_ ?_
        · skip
          exact g_sub _ [2, 3, 4] rfl (hJ124 x10 x11 u13)
        · skip
          refine g_iload C 45 5 dX6_swap_45 rfl ?_
          refine g_iconst C 47 1 dX6_swap_47 rfl ?_
          refine g_iadd C 48 dX6_swap_48 ?_
          refine g_istoreV C 49 (fun v15 => [(6, .int v15), (0, .ref (ad 0)), (1, .int p1), (2, .int p2), (3, .int x10), (4, .int x11), (5, .int x12)]) dX6_swap_49 (by decide) (fun _ => rfl) (fun v15 => ?_)
          refine g_jn2 118 (fun (a16 : Int32) (a17 : Int32) => [(0, .ref (ad 0)), (1, .int p1), (2, .int p2), (3, .int a16), (4, .int a17), (5, .int x12)]) (fun (a16 : Int32) (a17 : Int32) => []) (fun a16 a17 u18 => ?_) (fun J118 hJ118 => ?_)
          · skip
            rw [jX6_swap_118]
            refine g_iinc C 118 5 [(5, .int (x12 + 1)), (0, .ref (ad 0)), (1, .int p1), (2, .int p2), (3, .int a16), (4, .int a17)] dX6_swap_118 rfl rfl (by decide) rfl ?_
            refine g_goto C 121 33 dX6_swap_121 (by decide) ?_
            exact g_sub _ [1, 2, 3, 4, 5, 0] rfl (hself14 a16 a17 (x12 + 1) u18)
          · skip
            refine g_sub _ [1, 2, 3, 4, 5, 6, 0] rfl ?_
            refine g_lq3 (fun (x19 : Int32) (x20 : Int32) (x21 : Int32) => [(0, .ref (ad 0)), (1, .int p1), (2, .int p2), (3, .int x19), (4, .int x20), (5, .int x12), (6, .int x21)]) (fun self23 hself23 x19 x20 x21 u22 => ?_) F x10 x11 v15 u13
            rw [bX6_swap_51]
            refine g_iload C 51 6 dX6_swap_51 rfl ?_
            refine g_aload_n C 53 0 dX6_swap_53 rfl ?_
            refine gfX_X6_court C 54 iX6 (List.mem_cons_of_mem _ (List.mem_append_right _ wgL_1_15.1)) dX6_swap_54 ?_
            refine gfX_X0_hearings 0 (by decide) C 57 iX0 (List.mem_cons_of_mem _ (List.mem_append_right _ wgL_18_8.1)) dX6_swap_57 ?_
            refine g_icmp_ge C 60 118 dX6_swap_60 (by decide) ?_ ?_
            · skip
              exact g_sub _ [0, 1, 2, 3, 4, 5] rfl (hJ118 x19 x20 u22)
            · skip
              refine g_aload_n C 63 0 dX6_swap_63 rfl ?_
              refine gfX_X6_court C 64 iX6 (List.mem_cons_of_mem _ (List.mem_append_right _ wgL_1_15.1)) dX6_swap_64 ?_
              refine g_iload C 67 5 dX6_swap_67 rfl ?_
              refine g_iload C 69 6 dX6_swap_69 rfl ?_
              refine g_callVv (st := []) (As := [.int x12, .int x21]) C EX_ok EX_vm 71 1 2 (tX0_changeDocketJudges F 0 (by decide) x12 x21 u22) rfl gX6_swap_X0_changeDocketJudges rfl rfl rfl (by decide +kernel) ⟨Nat.le_of_ble_eq_true rfl, Nat.le_of_ble_eq_true rfl⟩ (wX_X0 ad cI cZ _ 0 (by decide)) rfl rfl (Nat.le_of_ble_eq_true rfl) dX6_swap_71 (fun u24 => ?_)
              refine g_aload_n C 74 0 dX6_swap_74 rfl ?_
              refine g_iload_n C 75 1 dX6_swap_75 rfl ?_
              refine g_iconst C 76 0 dX6_swap_76 rfl ?_
              refine g_callVi (st := []) (As := [.int p1, .int 0]) C EX_ok EX_vm 77 0 2 (tX6_wonByDocket F p1 0 u24) rfl gX6_swap_X6_wonByDocket rfl rfl rfl (by decide +kernel) ⟨Nat.le_of_ble_eq_true rfl, Nat.le_of_ble_eq_true rfl⟩ rfl rfl rfl (Nat.le_of_ble_eq_true rfl) dX6_swap_77 (fun r26 u25 => ?_)
              refine g_istore C 80 [(7, .int r26), (0, .ref (ad 0)), (1, .int p1), (2, .int p2), (3, .int x19), (4, .int x20), (5, .int x12), (6, .int x21)] dX6_swap_80 (by decide) rfl ?_
              refine g_aload_n C 82 1 dX6_swap_82 rfl ?_
              refine gfX_X6_court C 83 iX6 (List.mem_cons_of_mem _ (List.mem_append_right _ wgL_1_15.1)) dX6_swap_83 ?_
              refine g_iload C 86 6 dX6_swap_86 rfl ?_
              refine g_iload C 88 7 dX6_swap_88 rfl ?_
              refine g_callVv (st := []) (As := [.int x12, .int x21]) C EX_ok EX_vm 90 1 2 (tX0_changeDocketJudges F 0 (by decide) x12 x21 u25) rfl gX6_swap_X0_changeDocketJudges rfl rfl rfl (by decide +kernel) ⟨Nat.le_of_ble_eq_true rfl, Nat.le_of_ble_eq_true rfl⟩ (wX_X0 ad cI cZ _ 0 (by decide)) rfl rfl (Nat.le_of_ble_eq_true rfl) dX6_swap_90 (fun u27 => ?_)
              refine g_iload C 93 0 dX6_swap_93 rfl ?_
              refine g_iload_n C 95 4 dX6_swap_95 rfl ?_
              refine g_jn2 112 (fun (a28 : Int32) (a29 : Int32) => [(0, .ref (ad 0)), (1, .int p1), (2, .int p2), (3, .int a28), (4, .int a29), (5, .int x12), (6, .int x21)]) (fun (a28 : Int32) (a29 : Int32) => []) (fun a28 a29 u30 => ?_) (fun J112 hJ112 => ?_)
              · skip
                refine g_iinc C 112 6 [(6, .int (x21 + 1)), (0, .ref (ad 0)), (1, .int p1), (2, .int p2), (3, .int a28), (4, .int a29), (5, .int x12)] dX6_swap_112 rfl rfl (by decide) rfl ?_
                refine g_goto C 115 51 dX6_swap_115 (by decide) ?_
                exact g_sub _ [1, 2, 3, 4, 5, 6, 0] rfl (hself23 a28 a29 (x21 + 1) u30)
              · skip
                refine g_icmp_le C 96 112 dX6_swap_96 (by decide) ?_ ?_
                · skip
                  exact g_sub _ [1, 2, 3, 4, 5, 6, 7] rfl (hJ112 x19 x20 u27)
                · skip
                  refine g_iload C 99 0 dX6_swap_99 rfl ?_
                  refine g_istore_n C 101 [(3, .int r26), (7, .int r26), (0, .ref (ad 0)), (1, .int p1), (2, .int p2), (4, .int x20), (5, .int x12), (6, .int x21)] dX6_swap_101 (by decide) rfl ?_
                  refine g_bipush C 102 10 dX6_swap_102 rfl ?_
                  refine g_iload C 104 6 dX6_swap_104 rfl ?_
                  refine g_imul C 106 dX6_swap_106 ?_
                  refine g_iload C 107 7 dX6_swap_107 rfl ?_
                  refine g_iadd C 109 dX6_swap_109 ?_
                  refine g_istoreV C 110 (fun v31 => [(4, .int v31), (3, .int r26), (7, .int r26), (0, .ref (ad 0)), (1, .int p1), (2, .int p2), (5, .int x12), (6, .int x21)]) dX6_swap_110 (by decide) (fun _ => rfl) (fun v31 => ?_)
                  exact g_sub _ [3, 4, 5, 1, 0, 6, 7] rfl (hJ112 r26 v31 u27)
    · skip
      refine g_iconst C 17 (-1) dX6_swap_17 rfl ?_
      exact g_iret C 18 dX6_swap_18
def bX6_weightOf_5 (F : Nat) (p1 : Int32) (p2 : Int32) (self4 : Int64 → Int32 → St → Option (Int64 × St)) (x1 : Int64) (x2 : Int32) (u3 : St) : Option (Int64 × St) :=
  if (u3.1 2) ≤ x2 then some (x1, u3) else jn (fun (a5 : Int64) (u6 : St) => vl (x1 * a5) (fun v7 => (self4 v7 (x2 + 1) u6))) (fun (J37 : Int64 → St → Option (Int64 × St)) => if ((p2 >>> (x2 &&& 31)) &&& 1) = 0 then (J37 (Int32.toInt64 (10 - p1)) u3) else (J37 (Int32.toInt64 p1) u3))
def pX6_weightOf (F : Nat) (p1 : Int32) (p2 : Int32) (u : St) : Option (Int64 × St) :=
  (lq2 (bX6_weightOf_5 F p1 p2) F 1 0 u)
set_option maxRecDepth 100000 in
set_option maxHeartbeats 4000000 in
theorem tX6_weightOf {l : Launch} {D : va_G} {cI cZ : ClassId} {ad : Nat → Nat} {tBURNS tFLAME_BOUNDS : Nat} {tS : Option Nat} {adK adV : Nat → Nat} (F : Nat) (p1 : Int32) (p2 : Int32) (u : St) : CtL l D [(cI, .int), (cZ, .boolean)] (wX ad cI cZ) (EX tBURNS tFLAME_BOUNDS tS adK adV) yX6_weightOf wsX6_weightOf ({ frames := 0, cells := 0, slots := 0, locals := 0 } : Room) [.ref (ad 0), .int p1, .int p2] u (pX6_weightOf F p1 p2 u) := by
  refine ctL_of (own := RX6) (cc := cX6_weightOf) (n := 6) (ret := (some .long)) (by decide) rfl rfl (Nat.le_of_ble_eq_true rfl) (lv := [(0, .ref (ad 0)), (1, .int p1), (2, .int p2)]) rfl (fun C => ?_)
  have iX0 : ∀ w ∈ wsX00, w ∈ wsX6_weightOf := fun w h => List.mem_cons_of_mem _ (List.mem_append_right _ (inlX0 w h))
  have iX6 : ∀ w ∈ wsX60, w ∈ wsX6_weightOf := fun w h => List.mem_cons_of_mem _ (List.mem_append_right _ (inlX6 w h))
  rw [pX6_weightOf]
  refine g_lconst C 0 1 dX6_weightOf_0 rfl ?_
  refine g_lstore_n C 1 [(3, .long 1), (0, .ref (ad 0)), (1, .int p1), (2, .int p2)] dX6_weightOf_1 (by decide) rfl ?_
  refine g_iconst C 2 0 dX6_weightOf_2 rfl ?_
  refine g_istore C 3 [(5, .int 0), (3, .long 1), (0, .ref (ad 0)), (1, .int p1), (2, .int p2)] dX6_weightOf_3 (by decide) rfl ?_
  refine g_sub _ [2, 3, 4, 1, 0] rfl ?_
  refine g_lq2 (fun (x1 : Int64) (x2 : Int32) => [(0, .ref (ad 0)), (1, .int p1), (2, .int p2), (3, .long x1), (5, .int x2)]) (fun self4 hself4 x1 x2 u3 => ?_) F 1 0 u
  rw [bX6_weightOf_5]
  refine g_iload C 5 4 dX6_weightOf_5 rfl ?_
  refine g_aload_n C 7 0 dX6_weightOf_7 rfl ?_
  refine gfX_X6_court C 8 iX6 (List.mem_cons_of_mem _ (List.mem_append_right _ wgL_1_15.1)) dX6_weightOf_8 ?_
  refine gfX_X0_draughts 0 (by decide) C 11 iX0 (List.mem_cons_of_mem _ (List.mem_append_right _ wgL_18_7.1)) dX6_weightOf_11 ?_
  refine g_icmp_ge C 14 45 dX6_weightOf_14 (by decide) ?_ ?_
  · skip
    refine g_lload_n C 45 3 dX6_weightOf_45 rfl ?_
    exact g_lret C 46 dX6_weightOf_46
  · skip
    refine g_lload_n C 17 3 dX6_weightOf_17 rfl ?_
    refine g_iload_n C 18 2 dX6_weightOf_18 rfl ?_
    refine g_iload C 19 4 dX6_weightOf_19 rfl ?_
    refine g_ishr C 21 dX6_weightOf_21 ?_
    refine g_iconst C 22 1 dX6_weightOf_22 rfl ?_
    refine g_iand C 23 dX6_weightOf_23 ?_
    refine g_jn1 37 (fun (a5 : Int64) => [(0, .ref (ad 0)), (1, .int p1), (2, .int p2), (5, .int x2)]) (fun (a5 : Int64) => [.long a5, .long x1]) (fun a5 u6 => ?_) (fun J37 hJ37 => ?_)
    · skip
      refine g_lmul C 37 dX6_weightOf_37 ?_
      refine g_lstore_nV C 38 (fun v7 => [(3, .long v7), (0, .ref (ad 0)), (1, .int p1), (2, .int p2), (5, .int x2)]) dX6_weightOf_38 (by decide) (fun _ => rfl) (fun v7 => ?_)
      refine g_iinc C 39 4 [(5, .int (x2 + 1)), (3, .long v7), (0, .ref (ad 0)), (1, .int p1), (2, .int p2)] dX6_weightOf_39 rfl rfl (by decide) rfl ?_
      refine g_goto C 42 5 dX6_weightOf_42 (by decide) ?_
      exact g_sub _ [2, 3, 4, 1, 0] rfl (hself4 v7 (x2 + 1) u6)
    · skip
      refine g_if_eq C 24 32 dX6_weightOf_24 (by decide) ?_ ?_
      · skip
        refine g_bipush C 32 10 dX6_weightOf_32 rfl ?_
        refine g_iload_n C 34 1 dX6_weightOf_34 rfl ?_
        refine g_isub C 35 dX6_weightOf_35 ?_
        refine g_i2l C 36 dX6_weightOf_36 ?_
        exact g_sub _ [0, 1, 2, 4] rfl (hJ37 (Int32.toInt64 (10 - p1)) u3)
      · skip
        refine g_iload_n C 27 1 dX6_weightOf_27 rfl ?_
        refine g_i2l C 28 dX6_weightOf_28 ?_
        refine g_goto C 29 37 dX6_weightOf_29 (by decide) ?_
        exact g_sub _ [0, 1, 2, 4] rfl (hJ37 (Int32.toInt64 p1) u3)
def bX6_tenths_4 (F : Nat)  (self4 : Int64 → Int32 → St → Option (Int64 × St)) (x1 : Int64) (x2 : Int32) (u3 : St) : Option (Int64 × St) :=
  if (u3.1 2) ≤ x2 then some (x1, u3) else vl (x1 * 10) (fun v5 => (self4 v5 (x2 + 1) u3))
def pX6_tenths (F : Nat)  (u : St) : Option (Int64 × St) :=
  (lq2 (bX6_tenths_4 F) F 1 0 u)
set_option maxRecDepth 100000 in
set_option maxHeartbeats 4000000 in
theorem tX6_tenths {l : Launch} {D : va_G} {cI cZ : ClassId} {ad : Nat → Nat} {tBURNS tFLAME_BOUNDS : Nat} {tS : Option Nat} {adK adV : Nat → Nat} (F : Nat)  (u : St) : CtL l D [(cI, .int), (cZ, .boolean)] (wX ad cI cZ) (EX tBURNS tFLAME_BOUNDS tS adK adV) yX6_tenths wsX6_tenths ({ frames := 0, cells := 0, slots := 0, locals := 0 } : Room) [.ref (ad 0)] u (pX6_tenths F u) := by
  refine ctL_of (own := RX6) (cc := cX6_tenths) (n := 4) (ret := (some .long)) (by decide) rfl rfl (Nat.le_of_ble_eq_true rfl) (lv := [(0, .ref (ad 0))]) rfl (fun C => ?_)
  have iX0 : ∀ w ∈ wsX00, w ∈ wsX6_tenths := fun w h => List.mem_cons_of_mem _ (List.mem_append_right _ (inlX0 w h))
  have iX6 : ∀ w ∈ wsX60, w ∈ wsX6_tenths := fun w h => List.mem_cons_of_mem _ (List.mem_append_right _ (inlX6 w h))
  rw [pX6_tenths]
  refine g_lconst C 0 1 dX6_tenths_0 rfl ?_
  refine g_lstore_n C 1 [(1, .long 1), (0, .ref (ad 0))] dX6_tenths_1 (by decide) rfl ?_
  refine g_iconst C 2 0 dX6_tenths_2 rfl ?_
  refine g_istore_n C 3 [(3, .int 0), (1, .long 1), (0, .ref (ad 0))] dX6_tenths_3 (by decide) rfl ?_
  refine g_sub _ [2, 1, 0] rfl ?_
  refine g_lq2 (fun (x1 : Int64) (x2 : Int32) => [(0, .ref (ad 0)), (1, .long x1), (3, .int x2)]) (fun self4 hself4 x1 x2 u3 => ?_) F 1 0 u
  rw [bX6_tenths_4]
  refine g_iload_n C 4 2 dX6_tenths_4 rfl ?_
  refine g_aload_n C 5 0 dX6_tenths_5 rfl ?_
  refine gfX_X6_court C 6 iX6 (List.mem_cons_of_mem _ (List.mem_append_right _ wgL_1_15.1)) dX6_tenths_6 ?_
  refine gfX_X0_draughts 0 (by decide) C 9 iX0 (List.mem_cons_of_mem _ (List.mem_append_right _ wgL_18_7.1)) dX6_tenths_9 ?_
  refine g_icmp_ge C 12 27 dX6_tenths_12 (by decide) ?_ ?_
  · skip
    refine g_lload_n C 27 1 dX6_tenths_27 rfl ?_
    exact g_lret C 28 dX6_tenths_28
  · skip
    refine g_lload_n C 15 1 dX6_tenths_15 rfl ?_
    refine g_ldc2 C 16 10 (by decide +kernel) dX6_tenths_16 ?_
    refine g_lmul C 19 dX6_tenths_19 ?_
    refine g_lstore_nV C 20 (fun v5 => [(1, .long v5), (0, .ref (ad 0)), (3, .int x2)]) dX6_tenths_20 (by decide) (fun _ => rfl) (fun v5 => ?_)
    refine g_iinc C 21 2 [(3, .int (x2 + 1)), (1, .long v5), (0, .ref (ad 0))] dX6_tenths_21 rfl rfl (by decide) rfl ?_
    refine g_goto C 24 4 dX6_tenths_24 (by decide) ?_
    exact g_sub _ [2, 1, 0] rfl (hself4 v5 (x2 + 1) u3)
def jX6_inLowestTerms_44 (F : Nat) (p1 : Int64) (p2 : Int64) (p3 : Int32) (a1 : Int64) (u2 : St) : Option (Int64 × St) :=
  if 0 < (lg_cmp a1 0) then if p3 = 0 then gd (nzl a1) (some ((p1 / a1), u2)) else gd (nzl a1) (some ((p2 / a1), u2)) else some ((-1), u2)
def bX6_inLowestTerms_9 (F : Nat) (J44 : Int64 → St → Option (Int64 × St)) (self7 : Int64 → Int64 → Int32 → St → Option (Int64 × St)) (x3 : Int64) (x4 : Int64) (x5 : Int32) (u6 : St) : Option (Int64 × St) :=
  if 100 ≤ x5 then (J44 x3 u6) else if (lg_cmp x4 0) = 0 then (J44 x3 u6) else gd (nzl x4) (vl (lrm x3 x4) (fun v8 => (self7 x4 v8 (x5 + 1) u6)))
def pX6_inLowestTerms (F : Nat) (p1 : Int64) (p2 : Int64) (p3 : Int32) (u : St) : Option (Int64 × St) :=
  jn (jX6_inLowestTerms_44 F p1 p2 p3) (fun (J44 : Int64 → St → Option (Int64 × St)) => (lq3 (bX6_inLowestTerms_9 F J44) F p2 p1 0 u))
set_option maxRecDepth 100000 in
set_option maxHeartbeats 4000000 in
theorem tX6_inLowestTerms {l : Launch} {D : va_G} {cI cZ : ClassId} {ad : Nat → Nat} {tBURNS tFLAME_BOUNDS : Nat} {tS : Option Nat} {adK adV : Nat → Nat} (F : Nat) (p1 : Int64) (p2 : Int64) (p3 : Int32) (u : St) : CtL l D [(cI, .int), (cZ, .boolean)] (wX ad cI cZ) (EX tBURNS tFLAME_BOUNDS tS adK adV) yX6_inLowestTerms wsX6_inLowestTerms ({ frames := 0, cells := 0, slots := 0, locals := 0 } : Room) [.long p1, .long p2, .int p3] u (pX6_inLowestTerms F p1 p2 p3 u) := by
  refine ctL_of (own := RX6) (cc := cX6_inLowestTerms) (n := 12) (ret := (some .long)) (by decide) rfl rfl (Nat.le_of_ble_eq_true rfl) (lv := [(0, .long p1), (2, .long p2), (4, .int p3)]) rfl (fun C => ?_)
  rw [pX6_inLowestTerms]
  refine g_lload_n C 0 1 dX6_inLowestTerms_0 rfl ?_
  refine g_lstore C 1 [(5, .long p2), (0, .long p1), (2, .long p2), (4, .int p3)] dX6_inLowestTerms_1 (by decide) rfl ?_
  refine g_lload_n C 3 1 dX6_inLowestTerms_3 rfl ?_
  refine g_lstore C 4 [(7, .long p1), (5, .long p2), (0, .long p1), (2, .long p2), (4, .int p3)] dX6_inLowestTerms_4 (by decide) rfl ?_
  refine g_iconst C 6 0 dX6_inLowestTerms_6 rfl ?_
  refine g_istore C 7 [(9, .int 0), (7, .long p1), (5, .long p2), (0, .long p1), (2, .long p2), (4, .int p3)] dX6_inLowestTerms_7 (by decide) rfl ?_
  refine g_jn1 44 (fun (a1 : Int64) => [(0, .long p1), (2, .long p2), (4, .int p3), (5, .long a1)]) (fun (a1 : Int64) => []) (fun a1 u2 => ?_) (fun J44 hJ44 => ?_)
  · skip
    rw [jX6_inLowestTerms_44]
    refine g_lload C 44 3 dX6_inLowestTerms_44 rfl ?_
    refine g_lconst C 46 0 dX6_inLowestTerms_46 rfl ?_
    refine g_lcmp C 47 dX6_inLowestTerms_47 ?_
    refine g_if_gt C 48 55 dX6_inLowestTerms_48 (by decide) ?_ ?_
    · skip
      refine g_iload C 55 2 dX6_inLowestTerms_55 rfl ?_
      refine g_if_ne C 57 64 dX6_inLowestTerms_57 (by decide) ?_ ?_
      · skip
        refine g_lload_n C 64 1 dX6_inLowestTerms_64 rfl ?_
        refine g_lload C 65 3 dX6_inLowestTerms_65 rfl ?_
        refine g_ldiv C 67 dX6_inLowestTerms_67 ?_
        exact g_lret C 68 dX6_inLowestTerms_68
      · skip
        refine g_lload_n C 60 0 dX6_inLowestTerms_60 rfl ?_
        refine g_goto C 61 65 dX6_inLowestTerms_61 (by decide) ?_
        refine g_lload C 65 3 dX6_inLowestTerms_65 rfl ?_
        refine g_ldiv C 67 dX6_inLowestTerms_67 ?_
        exact g_lret C 68 dX6_inLowestTerms_68
    · skip
      refine g_ldc2 C 51 (-1) (by decide +kernel) dX6_inLowestTerms_51 ?_
      exact g_lret C 54 dX6_inLowestTerms_54
  · skip
    refine g_sub _ [3, 4, 5, 2, 1, 0] rfl ?_
    refine g_lq3 (fun (x3 : Int64) (x4 : Int64) (x5 : Int32) => [(0, .long p1), (2, .long p2), (4, .int p3), (5, .long x3), (7, .long x4), (9, .int x5)]) (fun self7 hself7 x3 x4 x5 u6 => ?_) F p2 p1 0 u
    rw [bX6_inLowestTerms_9]
    refine g_iload C 9 5 dX6_inLowestTerms_9 rfl ?_
    refine g_bipush C 11 100 dX6_inLowestTerms_11 rfl ?_
    refine g_icmp_ge C 13 44 dX6_inLowestTerms_13 (by decide) ?_ ?_
    · skip
      exact g_sub _ [0, 1, 2, 3] rfl (hJ44 x3 u6)
    · skip
      refine g_lload C 16 4 dX6_inLowestTerms_16 rfl ?_
      refine g_lconst C 18 0 dX6_inLowestTerms_18 rfl ?_
      refine g_lcmp C 19 dX6_inLowestTerms_19 ?_
      refine g_if_eq C 20 44 dX6_inLowestTerms_20 (by decide) ?_ ?_
      · skip
        exact g_sub _ [0, 1, 2, 3] rfl (hJ44 x3 u6)
      · skip
        refine g_lload C 23 3 dX6_inLowestTerms_23 rfl ?_
        refine g_lload C 25 4 dX6_inLowestTerms_25 rfl ?_
        refine g_lrem C 27 dX6_inLowestTerms_27 ?_
        refine g_lstoreV C 28 (fun v8 => [(10, .long v8), (0, .long p1), (2, .long p2), (4, .int p3), (5, .long x3), (7, .long x4), (9, .int x5)]) dX6_inLowestTerms_28 (by decide) (fun _ => rfl) (fun v8 => ?_)
        refine g_lload C 30 5 dX6_inLowestTerms_30 rfl ?_
        refine g_lstore C 32 [(5, .long x4), (10, .long v8), (0, .long p1), (2, .long p2), (4, .int p3), (7, .long x4), (9, .int x5)] dX6_inLowestTerms_32 (by decide) rfl ?_
        refine g_lload C 34 1 dX6_inLowestTerms_34 rfl ?_
        refine g_lstore C 36 [(7, .long v8), (5, .long x4), (10, .long v8), (0, .long p1), (2, .long p2), (4, .int p3), (9, .int x5)] dX6_inLowestTerms_36 (by decide) rfl ?_
        refine g_iinc C 38 6 [(9, .int (x5 + 1)), (7, .long v8), (5, .long x4), (10, .long v8), (0, .long p1), (2, .long p2), (4, .int p3)] dX6_inLowestTerms_38 rfl rfl (by decide) rfl ?_
        refine g_goto C 41 9 dX6_inLowestTerms_41 (by decide) ?_
        exact g_sub _ [4, 5, 6, 2, 1, 0] rfl (hself7 x4 v8 (x5 + 1) u6)
end
section
def jX6_luck_107 (F : Nat) (p5 : Int32) (a9 : Int64) (u10 : St) : Option (Int64 × St) :=
  bd (pX6_tenths F u10) (fun (r12 : Int64) (u11 : St) => bd (pX6_inLowestTerms F a9 r12 p5 u11) (fun (r14 : Int64) (u13 : St) => some (r14, u13)))
def bX6_luck_53 (F : Nat) (p1 : Int32) (p2 : Int32) (p3 : Int32) (p4 : Int32) (J107 : Int64 → St → Option (Int64 × St)) (self18 : Int64 → Int32 → St → Option (Int64 × St)) (x15 : Int64) (x16 : Int32) (u17 : St) : Option (Int64 × St) :=
  if (1 <<< ((u17.1 2) &&& 31)) ≤ x16 then (J107 x15 u17) else bd (pX6_prepare F p2 p4 x16 u17) (fun (_ : Unit) (u19 : St) => bd (pX5_verdictHeld F u19) (fun (r21 : Int32) (u20 : St) => jn (fun (a22 : Int64) (u23 : St) => (self18 a22 (x16 + 1) u23)) (fun (J101 : Int64 → St → Option (Int64 × St)) => if r21 = (p3 + 1) then bd (pX6_weightOf F p1 x16 u20) (fun (r25 : Int64) (u24 : St) => vl (x15 + r25) (fun v26 => (J101 v26 u24))) else (J101 x15 u20))))
def pX6_luck (F : Nat) (p1 : Int32) (p2 : Int32) (p3 : Int32) (p4 : Int32) (p5 : Int32) (u : St) : Option (Int64 × St) :=
  bd (pX6_isIn F (Int32.toInt64 p1) 0 10 u) (fun (r2 : Int32) (u1 : St) => if r2 = 0 then some ((-1), u1) else bd (pX6_isFlame F p2 p3 u1) (fun (r4 : Int32) (u3 : St) => if r4 = 0 then some ((-1), u3) else bd (pX0_hasJudge F 0 p4 u3) (fun (r6 : Int32) (u5 : St) => if r6 = 0 then some ((-1), u5) else bd (pX6_isIn F (Int32.toInt64 p5) 0 1 u5) (fun (r8 : Int32) (u7 : St) => if r8 = 0 then some ((-1), u7) else jn (jX6_luck_107 F p5) (fun (J107 : Int64 → St → Option (Int64 × St)) => (lq2 (bX6_luck_53 F p1 p2 p3 p4 J107) F 0 0 u7))))))
set_option maxRecDepth 100000 in
set_option maxHeartbeats 4000000 in
theorem tX6_luck {l : Launch} {D : va_G} {cI cZ : ClassId} {ad : Nat → Nat} {tBURNS tFLAME_BOUNDS : Nat} {tS : Option Nat} {adK adV : Nat → Nat} (F : Nat) (p1 : Int32) (p2 : Int32) (p3 : Int32) (p4 : Int32) (p5 : Int32) (u : St) : CtL l D [(cI, .int), (cZ, .boolean)] (wX ad cI cZ) (EX tBURNS tFLAME_BOUNDS tS adK adV) yX6_luck wsX6_luck ({ frames := 4, cells := 0, slots := 0, locals := 85 } : Room) [.ref (ad 0), .int p1, .int p2, .int p3, .int p4, .int p5] u (pX6_luck F p1 p2 p3 p4 p5 u) := by
  refine ctL_of (own := RX6) (cc := cX6_luck) (n := 9) (ret := (some .long)) (by decide) rfl rfl (Nat.le_of_ble_eq_true rfl) (lv := [(0, .ref (ad 0)), (1, .int p1), (2, .int p2), (3, .int p3), (4, .int p4), (5, .int p5)]) rfl (fun C => ?_)
  have iX0 : ∀ w ∈ wsX00, w ∈ wsX6_luck := fun w h => List.mem_cons_of_mem _ (List.mem_append_right _ (inlX0 w h))
  have iX6 : ∀ w ∈ wsX60, w ∈ wsX6_luck := fun w h => List.mem_cons_of_mem _ (List.mem_append_right _ (inlX6 w h))
  rw [pX6_luck]
  refine g_iload_n C 0 1 dX6_luck_0 rfl ?_
  refine g_i2l C 1 dX6_luck_1 ?_
  refine g_iconst C 2 0 dX6_luck_2 rfl ?_
  refine g_bipush C 3 10 dX6_luck_3 rfl ?_
  refine g_callSi (st := []) (As := [.long (Int32.toInt64 p1), .int 0, .int 10]) C EX_ok EX_vm 5 3 (tX6_isIn F (Int32.toInt64 p1) 0 10 u) rfl gX6_luck_X6_isIn rfl rfl rfl (by decide +kernel) ⟨Nat.le_of_ble_eq_true rfl, Nat.le_of_ble_eq_true rfl⟩ rfl (Nat.le_of_ble_eq_true rfl) dX6_luck_5 (fun r2 u1 => ?_)
  refine g_if_eq C 8 43 dX6_luck_8 (by decide) ?_ ?_
  · skip
    refine g_ldc2 C 43 (-1) (by decide +kernel) dX6_luck_43 ?_
    exact g_lret C 46 dX6_luck_46
  · skip
    refine g_aload_n C 11 0 dX6_luck_11 rfl ?_
    refine g_iload_n C 12 2 dX6_luck_12 rfl ?_
    refine g_iload_n C 13 3 dX6_luck_13 rfl ?_
    refine g_callVi (st := []) (As := [.int p2, .int p3]) C EX_ok EX_vm 14 0 2 (tX6_isFlame F p2 p3 u1) rfl gX6_luck_X6_isFlame rfl rfl rfl (by decide +kernel) ⟨Nat.le_of_ble_eq_true rfl, Nat.le_of_ble_eq_true rfl⟩ rfl rfl rfl (Nat.le_of_ble_eq_true rfl) dX6_luck_14 (fun r4 u3 => ?_)
    refine g_if_eq C 17 43 dX6_luck_17 (by decide) ?_ ?_
    · skip
      refine g_ldc2 C 43 (-1) (by decide +kernel) dX6_luck_43 ?_
      exact g_lret C 46 dX6_luck_46
    · skip
      refine g_aload_n C 20 0 dX6_luck_20 rfl ?_
      refine gfX_X6_court C 21 iX6 (List.mem_cons_of_mem _ (List.mem_append_right _ wgL_1_15.1)) dX6_luck_21 ?_
      refine g_iload C 24 4 dX6_luck_24 rfl ?_
      refine g_callVi (st := []) (As := [.int p4]) C EX_ok EX_vm 26 1 1 (tX0_hasJudge F 0 (by decide) p4 u3) rfl gX6_luck_X0_hasJudge rfl rfl rfl (by decide +kernel) ⟨Nat.le_of_ble_eq_true rfl, Nat.le_of_ble_eq_true rfl⟩ (wX_X0 ad cI cZ _ 0 (by decide)) rfl rfl (Nat.le_of_ble_eq_true rfl) dX6_luck_26 (fun r6 u5 => ?_)
      refine g_if_eq C 29 43 dX6_luck_29 (by decide) ?_ ?_
      · skip
        refine g_ldc2 C 43 (-1) (by decide +kernel) dX6_luck_43 ?_
        exact g_lret C 46 dX6_luck_46
      · skip
        refine g_iload C 32 5 dX6_luck_32 rfl ?_
        refine g_i2l C 34 dX6_luck_34 ?_
        refine g_iconst C 35 0 dX6_luck_35 rfl ?_
        refine g_iconst C 36 1 dX6_luck_36 rfl ?_
        refine g_callSi (st := []) (As := [.long (Int32.toInt64 p5), .int 0, .int 1]) C EX_ok EX_vm 37 3 (tX6_isIn F (Int32.toInt64 p5) 0 1 u5) rfl gX6_luck_X6_isIn rfl rfl rfl (by decide +kernel) ⟨Nat.le_of_ble_eq_true rfl, Nat.le_of_ble_eq_true rfl⟩ rfl (Nat.le_of_ble_eq_true rfl) dX6_luck_37 (fun r8 u7 => ?_)
        refine g_if_ne C 40 47 dX6_luck_40 (by decide) ?_ ?_
        · skip
          refine g_lconst C 47 0 dX6_luck_47 rfl ?_
          refine g_lstore C 48 [(6, .long 0), (0, .ref (ad 0)), (1, .int p1), (2, .int p2), (3, .int p3), (4, .int p4), (5, .int p5)] dX6_luck_48 (by decide) rfl ?_
          refine g_iconst C 50 0 dX6_luck_50 rfl ?_
          refine g_istore C 51 [(8, .int 0), (6, .long 0), (0, .ref (ad 0)), (1, .int p1), (2, .int p2), (3, .int p3), (4, .int p4), (5, .int p5)] dX6_luck_51 (by decide) rfl ?_
          refine g_jn1 107 (fun (a9 : Int64) => [(0, .ref (ad 0)), (5, .int p5), (6, .long a9)]) (fun (a9 : Int64) => []) (fun a9 u10 => ?_) (fun J107 hJ107 => ?_)
          · skip
            rw [jX6_luck_107]
            refine g_lload C 107 2 dX6_luck_107 rfl ?_
            refine g_aload_n C 109 0 dX6_luck_109 rfl ?_
            refine g_callVl (st := [.long a9]) (As := []) C EX_ok EX_vm 110 0 0 (tX6_tenths F u10) rfl gX6_luck_X6_tenths rfl rfl rfl (by decide +kernel) ⟨Nat.le_of_ble_eq_true rfl, Nat.le_of_ble_eq_true rfl⟩ rfl rfl rfl (Nat.le_of_ble_eq_true rfl) dX6_luck_110 (fun r12 u11 => ?_)
            refine g_iload C 113 1 dX6_luck_113 rfl ?_
            refine g_callSl (st := []) (As := [.long a9, .long r12, .int p5]) C EX_ok EX_vm 115 3 (tX6_inLowestTerms F a9 r12 p5 u11) rfl gX6_luck_X6_inLowestTerms rfl rfl rfl (by decide +kernel) ⟨Nat.le_of_ble_eq_true rfl, Nat.le_of_ble_eq_true rfl⟩ rfl (Nat.le_of_ble_eq_true rfl) dX6_luck_115 (fun r14 u13 => ?_)
            exact g_lret C 118 dX6_luck_118
          · skip
            refine g_sub _ [2, 3, 4, 5, 6, 7, 1, 0] rfl ?_
            refine g_lq2 (fun (x15 : Int64) (x16 : Int32) => [(0, .ref (ad 0)), (1, .int p1), (2, .int p2), (3, .int p3), (4, .int p4), (5, .int p5), (6, .long x15), (8, .int x16)]) (fun self18 hself18 x15 x16 u17 => ?_) F 0 0 u7
            rw [bX6_luck_53]
            refine g_iload C 53 7 dX6_luck_53 rfl ?_
            refine g_iconst C 55 1 dX6_luck_55 rfl ?_
            refine g_aload_n C 56 0 dX6_luck_56 rfl ?_
            refine gfX_X6_court C 57 iX6 (List.mem_cons_of_mem _ (List.mem_append_right _ wgL_1_15.1)) dX6_luck_57 ?_
            refine gfX_X0_draughts 0 (by decide) C 60 iX0 (List.mem_cons_of_mem _ (List.mem_append_right _ wgL_18_7.1)) dX6_luck_60 ?_
            refine g_ishl C 63 dX6_luck_63 ?_
            refine g_icmp_ge C 64 107 dX6_luck_64 (by decide) ?_ ?_
            · skip
              exact g_sub _ [0, 5, 6] rfl (hJ107 x15 u17)
            · skip
              refine g_aload_n C 67 0 dX6_luck_67 rfl ?_
              refine g_iload_n C 68 2 dX6_luck_68 rfl ?_
              refine g_iload C 69 4 dX6_luck_69 rfl ?_
              refine g_iload C 71 7 dX6_luck_71 rfl ?_
              refine g_callVv (st := []) (As := [.int p2, .int p4, .int x16]) C EX_ok EX_vm 73 0 3 (tX6_prepare F p2 p4 x16 u17) rfl gX6_luck_X6_prepare rfl rfl rfl (by decide +kernel) ⟨Nat.le_of_ble_eq_true rfl, Nat.le_of_ble_eq_true rfl⟩ rfl rfl rfl (Nat.le_of_ble_eq_true rfl) dX6_luck_73 (fun u19 => ?_)
              refine g_aload_n C 76 0 dX6_luck_76 rfl ?_
              refine gfX_X6_trial C 77 iX6 (List.mem_cons_of_mem _ (List.mem_append_right _ wgL_2_3.1)) dX6_luck_77 ?_
              refine g_callVi (st := []) (As := []) C EX_ok EX_vm 80 6 0 (tX5_verdictHeld F u19) rfl gX6_luck_X5_verdictHeld rfl rfl rfl (by decide +kernel) ⟨Nat.le_of_ble_eq_true rfl, Nat.le_of_ble_eq_true rfl⟩ rfl rfl rfl (Nat.le_of_ble_eq_true rfl) dX6_luck_80 (fun r21 u20 => ?_)
              refine g_iload_n C 83 3 dX6_luck_83 rfl ?_
              refine g_iconst C 84 1 dX6_luck_84 rfl ?_
              refine g_iadd C 85 dX6_luck_85 ?_
              refine g_jn1 101 (fun (a22 : Int64) => [(0, .ref (ad 0)), (1, .int p1), (2, .int p2), (3, .int p3), (4, .int p4), (5, .int p5), (6, .long a22), (8, .int x16)]) (fun (a22 : Int64) => []) (fun a22 u23 => ?_) (fun J101 hJ101 => ?_)
              · skip
                refine g_iinc C 101 7 [(8, .int (x16 + 1)), (0, .ref (ad 0)), (1, .int p1), (2, .int p2), (3, .int p3), (4, .int p4), (5, .int p5), (6, .long a22)] dX6_luck_101 rfl rfl (by decide) rfl ?_
                refine g_goto C 104 53 dX6_luck_104 (by decide) ?_
                exact g_sub _ [1, 2, 3, 4, 5, 6, 7, 0] rfl (hself18 a22 (x16 + 1) u23)
              · skip
                refine g_icmp_ne C 86 101 dX6_luck_86 (by decide) ?_ ?_
                · skip
                  exact g_sub _ [0, 1, 2, 3, 4, 5, 6, 7] rfl (hJ101 x15 u20)
                · skip
                  refine g_lload C 89 6 dX6_luck_89 rfl ?_
                  refine g_aload_n C 91 0 dX6_luck_91 rfl ?_
                  refine g_iload_n C 92 1 dX6_luck_92 rfl ?_
                  refine g_iload C 93 7 dX6_luck_93 rfl ?_
                  refine g_callVl (st := [.long x15]) (As := [.int p1, .int x16]) C EX_ok EX_vm 95 0 2 (tX6_weightOf F p1 x16 u20) rfl gX6_luck_X6_weightOf rfl rfl rfl (by decide +kernel) ⟨Nat.le_of_ble_eq_true rfl, Nat.le_of_ble_eq_true rfl⟩ rfl rfl rfl (Nat.le_of_ble_eq_true rfl) dX6_luck_95 (fun r25 u24 => ?_)
                  refine g_ladd C 98 dX6_luck_98 ?_
                  refine g_lstoreV C 99 (fun v26 => [(6, .long v26), (0, .ref (ad 0)), (1, .int p1), (2, .int p2), (3, .int p3), (4, .int p4), (5, .int p5), (8, .int x16)]) dX6_luck_99 (by decide) (fun _ => rfl) (fun v26 => ?_)
                  exact g_sub _ [1, 2, 3, 4, 5, 6, 0, 7] rfl (hJ101 v26 u24)
        · skip
          refine g_ldc2 C 43 (-1) (by decide +kernel) dX6_luck_43 ?_
          exact g_lret C 46 dX6_luck_46
def jX6_mean_79 (F : Nat) (p3 : Int32) (a7 : Int64) (u8 : St) : Option (Int64 × St) :=
  bd (pX6_tenths F u8) (fun (r10 : Int64) (u9 : St) => bd (pX6_inLowestTerms F a7 r10 p3 u9) (fun (r12 : Int64) (u11 : St) => some (r12, u11)))
def bX6_mean_38 (F : Nat) (p1 : Int32) (p2 : Int32) (J79 : Int64 → St → Option (Int64 × St)) (self16 : Int64 → Int32 → St → Option (Int64 × St)) (x13 : Int64) (x14 : Int32) (u15 : St) : Option (Int64 × St) :=
  if (1 <<< ((u15.1 2) &&& 31)) ≤ x14 then (J79 x13 u15) else bd (pX6_weightOf F p1 x14 u15) (fun (r18 : Int64) (u17 : St) => bd (pX6_wonByDocket F p2 x14 u17) (fun (r20 : Int32) (u19 : St) => vl (x13 + (r18 * (Int32.toInt64 r20))) (fun v21 => (self16 v21 (x14 + 1) u19))))
def pX6_mean (F : Nat) (p1 : Int32) (p2 : Int32) (p3 : Int32) (u : St) : Option (Int64 × St) :=
  bd (pX6_isIn F (Int32.toInt64 p1) 0 10 u) (fun (r2 : Int32) (u1 : St) => if r2 = 0 then some ((-1), u1) else bd (pX6_isSide F p2 u1) (fun (r4 : Int32) (u3 : St) => if r4 = 0 then some ((-1), u3) else bd (pX6_isIn F (Int32.toInt64 p3) 0 1 u3) (fun (r6 : Int32) (u5 : St) => if r6 = 0 then some ((-1), u5) else jn (jX6_mean_79 F p3) (fun (J79 : Int64 → St → Option (Int64 × St)) => (lq2 (bX6_mean_38 F p1 p2 J79) F 0 0 u5)))))
set_option maxRecDepth 100000 in
set_option maxHeartbeats 4000000 in
theorem tX6_mean {l : Launch} {D : va_G} {cI cZ : ClassId} {ad : Nat → Nat} {tBURNS tFLAME_BOUNDS : Nat} {tS : Option Nat} {adK adV : Nat → Nat} (F : Nat) (p1 : Int32) (p2 : Int32) (p3 : Int32) (u : St) : CtL l D [(cI, .int), (cZ, .boolean)] (wX ad cI cZ) (EX tBURNS tFLAME_BOUNDS tS adK adV) yX6_mean wsX6_mean ({ frames := 5, cells := 0, slots := 0, locals := 109 } : Room) [.ref (ad 0), .int p1, .int p2, .int p3] u (pX6_mean F p1 p2 p3 u) := by
  refine ctL_of (own := RX6) (cc := cX6_mean) (n := 7) (ret := (some .long)) (by decide) rfl rfl (Nat.le_of_ble_eq_true rfl) (lv := [(0, .ref (ad 0)), (1, .int p1), (2, .int p2), (3, .int p3)]) rfl (fun C => ?_)
  have iX0 : ∀ w ∈ wsX00, w ∈ wsX6_mean := fun w h => List.mem_cons_of_mem _ (List.mem_append_right _ (inlX0 w h))
  have iX6 : ∀ w ∈ wsX60, w ∈ wsX6_mean := fun w h => List.mem_cons_of_mem _ (List.mem_append_right _ (inlX6 w h))
  rw [pX6_mean]
  refine g_iload_n C 0 1 dX6_mean_0 rfl ?_
  refine g_i2l C 1 dX6_mean_1 ?_
  refine g_iconst C 2 0 dX6_mean_2 rfl ?_
  refine g_bipush C 3 10 dX6_mean_3 rfl ?_
  refine g_callSi (st := []) (As := [.long (Int32.toInt64 p1), .int 0, .int 10]) C EX_ok EX_vm 5 3 (tX6_isIn F (Int32.toInt64 p1) 0 10 u) rfl gX6_mean_X6_isIn rfl rfl rfl (by decide +kernel) ⟨Nat.le_of_ble_eq_true rfl, Nat.le_of_ble_eq_true rfl⟩ rfl (Nat.le_of_ble_eq_true rfl) dX6_mean_5 (fun r2 u1 => ?_)
  refine g_if_eq C 8 28 dX6_mean_8 (by decide) ?_ ?_
  · skip
    refine g_ldc2 C 28 (-1) (by decide +kernel) dX6_mean_28 ?_
    exact g_lret C 31 dX6_mean_31
  · skip
    refine g_iload_n C 11 2 dX6_mean_11 rfl ?_
    refine g_callSi (st := []) (As := [.int p2]) C EX_ok EX_vm 12 1 (tX6_isSide F p2 u1) rfl gX6_mean_X6_isSide rfl rfl rfl (by decide +kernel) ⟨Nat.le_of_ble_eq_true rfl, Nat.le_of_ble_eq_true rfl⟩ rfl (Nat.le_of_ble_eq_true rfl) dX6_mean_12 (fun r4 u3 => ?_)
    refine g_if_eq C 15 28 dX6_mean_15 (by decide) ?_ ?_
    · skip
      refine g_ldc2 C 28 (-1) (by decide +kernel) dX6_mean_28 ?_
      exact g_lret C 31 dX6_mean_31
    · skip
      refine g_iload_n C 18 3 dX6_mean_18 rfl ?_
      refine g_i2l C 19 dX6_mean_19 ?_
      refine g_iconst C 20 0 dX6_mean_20 rfl ?_
      refine g_iconst C 21 1 dX6_mean_21 rfl ?_
      refine g_callSi (st := []) (As := [.long (Int32.toInt64 p3), .int 0, .int 1]) C EX_ok EX_vm 22 3 (tX6_isIn F (Int32.toInt64 p3) 0 1 u3) rfl gX6_mean_X6_isIn rfl rfl rfl (by decide +kernel) ⟨Nat.le_of_ble_eq_true rfl, Nat.le_of_ble_eq_true rfl⟩ rfl (Nat.le_of_ble_eq_true rfl) dX6_mean_22 (fun r6 u5 => ?_)
      refine g_if_ne C 25 32 dX6_mean_25 (by decide) ?_ ?_
      · skip
        refine g_lconst C 32 0 dX6_mean_32 rfl ?_
        refine g_lstore C 33 [(4, .long 0), (0, .ref (ad 0)), (1, .int p1), (2, .int p2), (3, .int p3)] dX6_mean_33 (by decide) rfl ?_
        refine g_iconst C 35 0 dX6_mean_35 rfl ?_
        refine g_istore C 36 [(6, .int 0), (4, .long 0), (0, .ref (ad 0)), (1, .int p1), (2, .int p2), (3, .int p3)] dX6_mean_36 (by decide) rfl ?_
        refine g_jn1 79 (fun (a7 : Int64) => [(0, .ref (ad 0)), (3, .int p3), (4, .long a7)]) (fun (a7 : Int64) => []) (fun a7 u8 => ?_) (fun J79 hJ79 => ?_)
        · skip
          rw [jX6_mean_79]
          refine g_lload C 79 2 dX6_mean_79 rfl ?_
          refine g_aload_n C 81 0 dX6_mean_81 rfl ?_
          refine g_callVl (st := [.long a7]) (As := []) C EX_ok EX_vm 82 0 0 (tX6_tenths F u8) rfl gX6_mean_X6_tenths rfl rfl rfl (by decide +kernel) ⟨Nat.le_of_ble_eq_true rfl, Nat.le_of_ble_eq_true rfl⟩ rfl rfl rfl (Nat.le_of_ble_eq_true rfl) dX6_mean_82 (fun r10 u9 => ?_)
          refine g_iload_n C 85 1 dX6_mean_85 rfl ?_
          refine g_callSl (st := []) (As := [.long a7, .long r10, .int p3]) C EX_ok EX_vm 86 3 (tX6_inLowestTerms F a7 r10 p3 u9) rfl gX6_mean_X6_inLowestTerms rfl rfl rfl (by decide +kernel) ⟨Nat.le_of_ble_eq_true rfl, Nat.le_of_ble_eq_true rfl⟩ rfl (Nat.le_of_ble_eq_true rfl) dX6_mean_86 (fun r12 u11 => ?_)
          exact g_lret C 89 dX6_mean_89
        · skip
          refine g_sub _ [2, 3, 4, 5, 1, 0] rfl ?_
          refine g_lq2 (fun (x13 : Int64) (x14 : Int32) => [(0, .ref (ad 0)), (1, .int p1), (2, .int p2), (3, .int p3), (4, .long x13), (6, .int x14)]) (fun self16 hself16 x13 x14 u15 => ?_) F 0 0 u5
          rw [bX6_mean_38]
          refine g_iload C 38 5 dX6_mean_38 rfl ?_
          refine g_iconst C 40 1 dX6_mean_40 rfl ?_
          refine g_aload_n C 41 0 dX6_mean_41 rfl ?_
          refine gfX_X6_court C 42 iX6 (List.mem_cons_of_mem _ (List.mem_append_right _ wgL_1_15.1)) dX6_mean_42 ?_
          refine gfX_X0_draughts 0 (by decide) C 45 iX0 (List.mem_cons_of_mem _ (List.mem_append_right _ wgL_18_7.1)) dX6_mean_45 ?_
          refine g_ishl C 48 dX6_mean_48 ?_
          refine g_icmp_ge C 49 79 dX6_mean_49 (by decide) ?_ ?_
          · skip
            exact g_sub _ [0, 3, 4] rfl (hJ79 x13 u15)
          · skip
            refine g_lload C 52 4 dX6_mean_52 rfl ?_
            refine g_aload_n C 54 0 dX6_mean_54 rfl ?_
            refine g_iload_n C 55 1 dX6_mean_55 rfl ?_
            refine g_iload C 56 5 dX6_mean_56 rfl ?_
            refine g_callVl (st := [.long x13]) (As := [.int p1, .int x14]) C EX_ok EX_vm 58 0 2 (tX6_weightOf F p1 x14 u15) rfl gX6_mean_X6_weightOf rfl rfl rfl (by decide +kernel) ⟨Nat.le_of_ble_eq_true rfl, Nat.le_of_ble_eq_true rfl⟩ rfl rfl rfl (Nat.le_of_ble_eq_true rfl) dX6_mean_58 (fun r18 u17 => ?_)
            refine g_aload_n C 61 0 dX6_mean_61 rfl ?_
            refine g_iload_n C 62 2 dX6_mean_62 rfl ?_
            refine g_iload C 63 5 dX6_mean_63 rfl ?_
            refine g_callVi (st := [.long r18, .long x13]) (As := [.int p2, .int x14]) C EX_ok EX_vm 65 0 2 (tX6_wonByDocket F p2 x14 u17) rfl gX6_mean_X6_wonByDocket rfl rfl rfl (by decide +kernel) ⟨Nat.le_of_ble_eq_true rfl, Nat.le_of_ble_eq_true rfl⟩ rfl rfl rfl (Nat.le_of_ble_eq_true rfl) dX6_mean_65 (fun r20 u19 => ?_)
            refine g_i2l C 68 dX6_mean_68 ?_
            refine g_lmul C 69 dX6_mean_69 ?_
            refine g_ladd C 70 dX6_mean_70 ?_
            refine g_lstoreV C 71 (fun v21 => [(4, .long v21), (0, .ref (ad 0)), (1, .int p1), (2, .int p2), (3, .int p3), (6, .int x14)]) dX6_mean_71 (by decide) (fun _ => rfl) (fun v21 => ?_)
            refine g_iinc C 73 5 [(6, .int (x14 + 1)), (4, .long v21), (0, .ref (ad 0)), (1, .int p1), (2, .int p2), (3, .int p3)] dX6_mean_73 rfl rfl (by decide) rfl ?_
            refine g_goto C 76 38 dX6_mean_76 (by decide) ?_
            exact g_sub _ [2, 3, 4, 5, 1, 0] rfl (hself16 v21 (x14 + 1) u19)
      · skip
        refine g_ldc2 C 28 (-1) (by decide +kernel) dX6_mean_28 ?_
        exact g_lret C 31 dX6_mean_31
def pX1_add (F : Nat) (p1 : Int32) (p2 : Int32) (p3 : Int32) (u : St) : Option (Int32 × St) :=
  if (u.1 29) < 6 then gd (inb (u.1 29) 6) (vl (sta u 60 (u.1 29) p1) (fun (u1 : St) => gd (inb (u1.1 29) 6) (vl (sta u1 61 (u1.1 29) p2) (fun (u2 : St) => gd (inb (u2.1 29) 6) (vl (sta u2 62 (u2.1 29) p3) (fun (u3 : St) => vl (stf u3 29 ((u3.1 29) + 1)) (fun (u4 : St) => some (1, u4)))))))) else some (0, u)
set_option maxRecDepth 100000 in
set_option maxHeartbeats 4000000 in
theorem tX1_add {l : Launch} {D : va_G} {cI cZ : ClassId} {ad : Nat → Nat} {tBURNS tFLAME_BOUNDS : Nat} {tS : Option Nat} {adK adV : Nat → Nat} (F : Nat) (p1 : Int32) (p2 : Int32) (p3 : Int32) (u : St) : CtI l D [(cI, .int), (cZ, .boolean)] (wX ad cI cZ) (EX tBURNS tFLAME_BOUNDS tS adK adV) yX1_add wsX1_add ({ frames := 0, cells := 0, slots := 0, locals := 0 } : Room) [.ref (ad 8), .int p1, .int p2, .int p3] u (pX1_add F p1 p2 p3 u) := by
  refine ctI_of (own := RX1) (cc := cX1_add) (n := 4) (ret := (some .boolean)) (by decide) rfl rfl (Nat.le_of_ble_eq_true rfl) (lv := [(0, .ref (ad 8)), (1, .int p1), (2, .int p2), (3, .int p3)]) rfl (fun C => ?_)
  have iX1 : ∀ w ∈ wsX10, w ∈ wsX1_add := fun w h => List.mem_cons_of_mem _ (List.mem_append_right _ (inlX1 w h))
  rw [pX1_add]
  refine g_aload_n C 0 0 dX1_add_0 rfl ?_
  refine gfX_X1_size C 1 iX1 (List.mem_cons_of_mem _ (List.mem_append_right _ wgL_5_3.1)) dX1_add_1 ?_
  refine g_bipush C 4 6 dX1_add_4 rfl ?_
  refine g_icmp_lt C 6 11 dX1_add_6 (by decide) ?_ ?_
  · skip
    refine g_aload_n C 11 0 dX1_add_11 rfl ?_
    refine gfX_X1_ofCase C 12 iX1 (List.mem_cons_of_mem _ (List.mem_append_right _ wgL_5_0.1)) dX1_add_12 ?_
    refine g_aload_n C 15 0 dX1_add_15 rfl ?_
    refine gfX_X1_size C 16 iX1 (List.mem_cons_of_mem _ (List.mem_append_right _ wgL_5_3.1)) dX1_add_16 ?_
    refine g_iload_n C 19 1 dX1_add_19 rfl ?_
    refine g_iast C 20 (10 + 60) 0 60 (wX_arr 60 (by decide)) (wX_aset 60 (by decide)) rfl dX1_add_20 (fun u1 => ?_)
    refine g_aload_n C 21 0 dX1_add_21 rfl ?_
    refine gfX_X1_ofJudge C 22 iX1 (List.mem_cons_of_mem _ (List.mem_append_right _ wgL_5_1.1)) dX1_add_22 ?_
    refine g_aload_n C 25 0 dX1_add_25 rfl ?_
    refine gfX_X1_size C 26 iX1 (List.mem_cons_of_mem _ (List.mem_append_right _ wgL_5_3.1)) dX1_add_26 ?_
    refine g_iload_n C 29 2 dX1_add_29 rfl ?_
    refine g_iast C 30 (10 + 61) 0 61 (wX_arr 61 (by decide)) (wX_aset 61 (by decide)) rfl dX1_add_30 (fun u2 => ?_)
    refine g_aload_n C 31 0 dX1_add_31 rfl ?_
    refine gfX_X1_verdict C 32 iX1 (List.mem_cons_of_mem _ (List.mem_append_right _ wgL_5_2.1)) dX1_add_32 ?_
    refine g_aload_n C 35 0 dX1_add_35 rfl ?_
    refine gfX_X1_size C 36 iX1 (List.mem_cons_of_mem _ (List.mem_append_right _ wgL_5_3.1)) dX1_add_36 ?_
    refine g_iload_n C 39 3 dX1_add_39 rfl ?_
    refine g_iast C 40 (10 + 62) 0 62 (wX_arr 62 (by decide)) (wX_aset 62 (by decide)) rfl dX1_add_40 (fun u3 => ?_)
    refine g_aload_n C 41 0 dX1_add_41 rfl ?_
    refine g_dup C 42 dX1_add_42 rfl ?_
    refine gfX_X1_size C 43 iX1 (List.mem_cons_of_mem _ (List.mem_append_right _ wgL_5_3.1)) dX1_add_43 ?_
    refine g_iconst C 46 1 dX1_add_46 rfl ?_
    refine g_iadd C 47 dX1_add_47 ?_
    refine pfX_X1_size C 48 iX1 (List.mem_cons_of_mem _ (List.mem_append_right _ wgL_5_3.1)) dX1_add_48 (fun u4 => ?_)
    refine g_iconst C 51 1 dX1_add_51 rfl ?_
    exact g_nret C 52 rfl dX1_add_52
  · skip
    refine g_iconst C 9 0 dX1_add_9 rfl ?_
    exact g_nret C 10 rfl dX1_add_10
def pX6_see (F : Nat) (p1 : Int32) (p2 : Int32) (p3 : Int32) (u : St) : Option (Int32 × St) :=
  bd (pX0_hasCase F 0 (Int32.toInt64 p1) u) (fun (r2 : Int32) (u1 : St) => if r2 = 0 then some ((-1), u1) else bd (pX0_hasJudge F 0 p2 u1) (fun (r4 : Int32) (u3 : St) => if r4 = 0 then some ((-1), u3) else bd (pX6_isIn F (Int32.toInt64 p3) 1 3 u3) (fun (r6 : Int32) (u5 : St) => if r6 = 0 then some ((-1), u5) else bd (pX1_add F p1 p2 p3 u5) (fun (r8 : Int32) (u7 : St) => if r8 = 0 then some ((-3), u7) else some ((u7.1 29), u7)))))
set_option maxRecDepth 100000 in
set_option maxHeartbeats 4000000 in
theorem tX6_see {l : Launch} {D : va_G} {cI cZ : ClassId} {ad : Nat → Nat} {tBURNS tFLAME_BOUNDS : Nat} {tS : Option Nat} {adK adV : Nat → Nat} (F : Nat) (p1 : Int32) (p2 : Int32) (p3 : Int32) (u : St) : CtI l D [(cI, .int), (cZ, .boolean)] (wX ad cI cZ) (EX tBURNS tFLAME_BOUNDS tS adK adV) yX6_see wsX6_see ({ frames := 2, cells := 0, slots := 0, locals := 45 } : Room) [.ref (ad 0), .int p1, .int p2, .int p3] u (pX6_see F p1 p2 p3 u) := by
  refine ctI_of (own := RX6) (cc := cX6_see) (n := 4) (ret := (some .int)) (by decide) rfl rfl (Nat.le_of_ble_eq_true rfl) (lv := [(0, .ref (ad 0)), (1, .int p1), (2, .int p2), (3, .int p3)]) rfl (fun C => ?_)
  have iX1 : ∀ w ∈ wsX10, w ∈ wsX6_see := fun w h => List.mem_cons_of_mem _ (List.mem_append_right _ (inlX1 w h))
  have iX6 : ∀ w ∈ wsX60, w ∈ wsX6_see := fun w h => List.mem_cons_of_mem _ (List.mem_append_right _ (inlX6 w h))
  rw [pX6_see]
  refine g_aload_n C 0 0 dX6_see_0 rfl ?_
  refine gfX_X6_court C 1 iX6 (List.mem_cons_of_mem _ (List.mem_append_right _ wgL_1_15.1)) dX6_see_1 ?_
  refine g_iload_n C 4 1 dX6_see_4 rfl ?_
  refine g_i2l C 5 dX6_see_5 ?_
  refine g_callVi (st := []) (As := [.long (Int32.toInt64 p1)]) C EX_ok EX_vm 6 1 1 (tX0_hasCase F 0 (by decide) (Int32.toInt64 p1) u) rfl gX6_see_X0_hasCase rfl rfl rfl (by decide +kernel) ⟨Nat.le_of_ble_eq_true rfl, Nat.le_of_ble_eq_true rfl⟩ (wX_X0 ad cI cZ _ 0 (by decide)) rfl rfl (Nat.le_of_ble_eq_true rfl) dX6_see_6 (fun r2 u1 => ?_)
  refine g_if_eq C 9 33 dX6_see_9 (by decide) ?_ ?_
  · skip
    refine g_iconst C 33 (-1) dX6_see_33 rfl ?_
    exact g_iret C 34 dX6_see_34
  · skip
    refine g_aload_n C 12 0 dX6_see_12 rfl ?_
    refine gfX_X6_court C 13 iX6 (List.mem_cons_of_mem _ (List.mem_append_right _ wgL_1_15.1)) dX6_see_13 ?_
    refine g_iload_n C 16 2 dX6_see_16 rfl ?_
    refine g_callVi (st := []) (As := [.int p2]) C EX_ok EX_vm 17 1 1 (tX0_hasJudge F 0 (by decide) p2 u1) rfl gX6_see_X0_hasJudge rfl rfl rfl (by decide +kernel) ⟨Nat.le_of_ble_eq_true rfl, Nat.le_of_ble_eq_true rfl⟩ (wX_X0 ad cI cZ _ 0 (by decide)) rfl rfl (Nat.le_of_ble_eq_true rfl) dX6_see_17 (fun r4 u3 => ?_)
    refine g_if_eq C 20 33 dX6_see_20 (by decide) ?_ ?_
    · skip
      refine g_iconst C 33 (-1) dX6_see_33 rfl ?_
      exact g_iret C 34 dX6_see_34
    · skip
      refine g_iload_n C 23 3 dX6_see_23 rfl ?_
      refine g_i2l C 24 dX6_see_24 ?_
      refine g_iconst C 25 1 dX6_see_25 rfl ?_
      refine g_iconst C 26 3 dX6_see_26 rfl ?_
      refine g_callSi (st := []) (As := [.long (Int32.toInt64 p3), .int 1, .int 3]) C EX_ok EX_vm 27 3 (tX6_isIn F (Int32.toInt64 p3) 1 3 u3) rfl gX6_see_X6_isIn rfl rfl rfl (by decide +kernel) ⟨Nat.le_of_ble_eq_true rfl, Nat.le_of_ble_eq_true rfl⟩ rfl (Nat.le_of_ble_eq_true rfl) dX6_see_27 (fun r6 u5 => ?_)
      refine g_if_ne C 30 35 dX6_see_30 (by decide) ?_ ?_
      · skip
        refine g_aload_n C 35 0 dX6_see_35 rfl ?_
        refine gfX_X6_memory C 36 iX6 (List.mem_cons_of_mem _ (List.mem_append_right _ wgL_2_11.1)) dX6_see_36 ?_
        refine g_iload_n C 39 1 dX6_see_39 rfl ?_
        refine g_iload_n C 40 2 dX6_see_40 rfl ?_
        refine g_iload_n C 41 3 dX6_see_41 rfl ?_
        refine g_callVi (st := []) (As := [.int p1, .int p2, .int p3]) C EX_ok EX_vm 42 8 3 (tX1_add F p1 p2 p3 u5) rfl gX6_see_X1_add rfl rfl rfl (by decide +kernel) ⟨Nat.le_of_ble_eq_true rfl, Nat.le_of_ble_eq_true rfl⟩ rfl rfl rfl (Nat.le_of_ble_eq_true rfl) dX6_see_42 (fun r8 u7 => ?_)
        refine g_if_eq C 45 58 dX6_see_45 (by decide) ?_ ?_
        · skip
          refine g_bipush C 58 (-3) dX6_see_58 rfl ?_
          exact g_iret C 60 dX6_see_60
        · skip
          refine g_aload_n C 48 0 dX6_see_48 rfl ?_
          refine gfX_X6_memory C 49 iX6 (List.mem_cons_of_mem _ (List.mem_append_right _ wgL_2_11.1)) dX6_see_49 ?_
          refine gfX_X1_size C 52 iX1 (List.mem_cons_of_mem _ (List.mem_append_right _ wgL_7_14.1)) dX6_see_52 ?_
          refine g_goto C 55 60 dX6_see_55 (by decide) ?_
          exact g_iret C 60 dX6_see_60
      · skip
        refine g_iconst C 33 (-1) dX6_see_33 rfl ?_
        exact g_iret C 34 dX6_see_34
def pX6_forget (F : Nat) (p1 : Int32) (u : St) : Option (Int32 × St) :=
  bd (pX6_isIn F (Int32.toInt64 p1) 0 (u.1 29) u) (fun (r2 : Int32) (u1 : St) => if r2 = 0 then some ((-1), u1) else vl (u1.1 29) (fun v3 => vl (stf u1 29 p1) (fun (u4 : St) => some (v3, u4))))
set_option maxRecDepth 100000 in
set_option maxHeartbeats 4000000 in
theorem tX6_forget {l : Launch} {D : va_G} {cI cZ : ClassId} {ad : Nat → Nat} {tBURNS tFLAME_BOUNDS : Nat} {tS : Option Nat} {adK adV : Nat → Nat} (F : Nat) (p1 : Int32) (u : St) : CtI l D [(cI, .int), (cZ, .boolean)] (wX ad cI cZ) (EX tBURNS tFLAME_BOUNDS tS adK adV) yX6_forget wsX6_forget ({ frames := 1, cells := 0, slots := 0, locals := 23 } : Room) [.ref (ad 0), .int p1] u (pX6_forget F p1 u) := by
  refine ctI_of (own := RX6) (cc := cX6_forget) (n := 3) (ret := (some .int)) (by decide) rfl rfl (Nat.le_of_ble_eq_true rfl) (lv := [(0, .ref (ad 0)), (1, .int p1)]) rfl (fun C => ?_)
  have iX1 : ∀ w ∈ wsX10, w ∈ wsX6_forget := fun w h => List.mem_cons_of_mem _ (List.mem_append_right _ (inlX1 w h))
  have iX6 : ∀ w ∈ wsX60, w ∈ wsX6_forget := fun w h => List.mem_cons_of_mem _ (List.mem_append_right _ (inlX6 w h))
  rw [pX6_forget]
  refine g_iload_n C 0 1 dX6_forget_0 rfl ?_
  refine g_i2l C 1 dX6_forget_1 ?_
  refine g_iconst C 2 0 dX6_forget_2 rfl ?_
  refine g_aload_n C 3 0 dX6_forget_3 rfl ?_
  refine gfX_X6_memory C 4 iX6 (List.mem_cons_of_mem _ (List.mem_append_right _ wgL_2_11.1)) dX6_forget_4 ?_
  refine gfX_X1_size C 7 iX1 (List.mem_cons_of_mem _ (List.mem_append_right _ wgL_7_14.1)) dX6_forget_7 ?_
  refine g_callSi (st := []) (As := [.long (Int32.toInt64 p1), .int 0, .int (u.1 29)]) C EX_ok EX_vm 10 3 (tX6_isIn F (Int32.toInt64 p1) 0 (u.1 29) u) rfl gX6_forget_X6_isIn rfl rfl rfl (by decide +kernel) ⟨Nat.le_of_ble_eq_true rfl, Nat.le_of_ble_eq_true rfl⟩ rfl (Nat.le_of_ble_eq_true rfl) dX6_forget_10 (fun r2 u1 => ?_)
  refine g_if_ne C 13 18 dX6_forget_13 (by decide) ?_ ?_
  · skip
    refine g_aload_n C 18 0 dX6_forget_18 rfl ?_
    refine gfX_X6_memory C 19 iX6 (List.mem_cons_of_mem _ (List.mem_append_right _ wgL_2_11.1)) dX6_forget_19 ?_
    refine gfX_X1_size C 22 iX1 (List.mem_cons_of_mem _ (List.mem_append_right _ wgL_7_14.1)) dX6_forget_22 ?_
    refine g_istore_nV C 25 (fun v3 => [(2, .int v3), (0, .ref (ad 0)), (1, .int p1)]) dX6_forget_25 (by decide) (fun _ => rfl) (fun v3 => ?_)
    refine g_aload_n C 26 1 dX6_forget_26 rfl ?_
    refine gfX_X6_memory C 27 iX6 (List.mem_cons_of_mem _ (List.mem_append_right _ wgL_2_11.1)) dX6_forget_27 ?_
    refine g_iload_n C 30 2 dX6_forget_30 rfl ?_
    refine pfX_X1_size C 31 iX1 (List.mem_cons_of_mem _ (List.mem_append_right _ wgL_7_14.1)) dX6_forget_31 (fun u4 => ?_)
    refine g_iload_n C 34 0 dX6_forget_34 rfl ?_
    exact g_iret C 35 dX6_forget_35
  · skip
    refine g_iconst C 16 (-1) dX6_forget_16 rfl ?_
    exact g_iret C 17 dX6_forget_17
def bX1_fits_3 (F : Nat) (p3 : Int32) (p4 : Int32) (p5 : Int32) (self3 : Int32 → St → Option (Int32 × St)) (x1 : Int32) (u2 : St) : Option (Int32 × St) :=
  if (u2.1 29) ≤ x1 then some (1, u2) else gd (inb x1 6) (gd (inb x1 6) (bd (pX5_prepare F (u2.2 60 (Int32.toNatClampNeg x1)) (u2.2 61 (Int32.toNatClampNeg x1)) 0 u2) (fun (_ : Unit) (u4 : St) => gd (inb x1 6) (jn (fun (u5 : St) => bd (pX5_verdictHeld F u5) (fun (r7 : Int32) (u6 : St) => gd (inb x1 6) (if r7 = (u6.2 62 (Int32.toNatClampNeg x1)) then (self3 (x1 + 1) u6) else some (0, u6)))) (fun (J55 : St → Option (Int32 × St)) => if (u4.2 61 (Int32.toNatClampNeg x1)) = p3 then vl (stf u4 24 p4) (fun (u8 : St) => vl (stf u8 25 p5) (fun (u9 : St) => (J55 u9))) else (J55 u4))))))
def pX1_fits (F : Nat) (p3 : Int32) (p4 : Int32) (p5 : Int32) (u : St) : Option (Int32 × St) :=
  (lq1 (bX1_fits_3 F p3 p4 p5) F 0 u)
set_option maxRecDepth 100000 in
set_option maxHeartbeats 4000000 in
theorem tX1_fits {l : Launch} {D : va_G} {cI cZ : ClassId} {ad : Nat → Nat} {tBURNS tFLAME_BOUNDS : Nat} {tS : Option Nat} {adK adV : Nat → Nat} (F : Nat) (p3 : Int32) (p4 : Int32) (p5 : Int32) (u : St) : CtI l D [(cI, .int), (cZ, .boolean)] (wX ad cI cZ) (EX tBURNS tFLAME_BOUNDS tS adK adV) yX1_fits wsX1_fits ({ frames := 3, cells := 0, slots := 0, locals := 62 } : Room) [.ref (ad 8), .ref (ad 1), .ref (ad 6), .int p3, .int p4, .int p5] u (pX1_fits F p3 p4 p5 u) := by
  refine ctI_of (own := RX1) (cc := cX1_fits) (n := 7) (ret := (some .boolean)) (by decide) rfl rfl (Nat.le_of_ble_eq_true rfl) (lv := [(0, .ref (ad 8)), (1, .ref (ad 1)), (2, .ref (ad 6)), (3, .int p3), (4, .int p4), (5, .int p5)]) rfl (fun C => ?_)
  have iX1 : ∀ w ∈ wsX10, w ∈ wsX1_fits := fun w h => List.mem_cons_of_mem _ (List.mem_append_right _ (inlX1 w h))
  have iX5 : ∀ w ∈ wsX50, w ∈ wsX1_fits := fun w h => List.mem_cons_of_mem _ (List.mem_append_right _ (inlX5 w h))
  rw [pX1_fits]
  refine g_iconst C 0 0 dX1_fits_0 rfl ?_
  refine g_istore C 1 [(6, .int 0), (0, .ref (ad 8)), (1, .ref (ad 1)), (2, .ref (ad 6)), (3, .int p3), (4, .int p4), (5, .int p5)] dX1_fits_1 (by decide) rfl ?_
  refine g_sub _ [1, 2, 3, 4, 5, 6, 0] rfl ?_
  refine g_lq1 (fun (x1 : Int32) => [(0, .ref (ad 8)), (1, .ref (ad 1)), (2, .ref (ad 6)), (3, .int p3), (4, .int p4), (5, .int p5), (6, .int x1)]) (fun self3 hself3 x1 u2 => ?_) F 0 u
  rw [bX1_fits_3]
  refine g_iload C 3 6 dX1_fits_3 rfl ?_
  refine g_aload_n C 5 0 dX1_fits_5 rfl ?_
  refine gfX_X1_size C 6 iX1 (List.mem_cons_of_mem _ (List.mem_append_right _ wgL_5_3.1)) dX1_fits_6 ?_
  refine g_icmp_ge C 9 77 dX1_fits_9 (by decide) ?_ ?_
  · skip
    refine g_iconst C 77 1 dX1_fits_77 rfl ?_
    exact g_nret C 78 rfl dX1_fits_78
  · skip
    refine g_aload_n C 12 2 dX1_fits_12 rfl ?_
    refine g_aload_n C 13 1 dX1_fits_13 rfl ?_
    refine g_aload_n C 14 0 dX1_fits_14 rfl ?_
    refine gfX_X1_ofCase C 15 iX1 (List.mem_cons_of_mem _ (List.mem_append_right _ wgL_5_0.1)) dX1_fits_15 ?_
    refine g_iload C 18 6 dX1_fits_18 rfl ?_
    refine g_iald C 20 (10 + 60) 0 (wX_arr 60 (by decide)) rfl dX1_fits_20 ?_
    refine g_aload_n C 21 0 dX1_fits_21 rfl ?_
    refine gfX_X1_ofJudge C 22 iX1 (List.mem_cons_of_mem _ (List.mem_append_right _ wgL_5_1.1)) dX1_fits_22 ?_
    refine g_iload C 25 6 dX1_fits_25 rfl ?_
    refine g_iald C 27 (10 + 61) 0 (wX_arr 61 (by decide)) rfl dX1_fits_27 ?_
    refine g_iconst C 28 0 dX1_fits_28 rfl ?_
    refine g_callVv (st := []) (As := [.ref (ad 1), .int (u2.2 60 (Int32.toNatClampNeg x1)), .int (u2.2 61 (Int32.toNatClampNeg x1)), .int 0]) C EX_ok EX_vm 29 6 4 (tX5_prepare F (u2.2 60 (Int32.toNatClampNeg x1)) (u2.2 61 (Int32.toNatClampNeg x1)) 0 u2) rfl gX1_fits_X5_prepare rfl rfl rfl (by decide +kernel) ⟨Nat.le_of_ble_eq_true rfl, Nat.le_of_ble_eq_true rfl⟩ rfl rfl rfl (Nat.le_of_ble_eq_true rfl) dX1_fits_29 (fun u4 => ?_)
    refine g_aload_n C 32 0 dX1_fits_32 rfl ?_
    refine gfX_X1_ofJudge C 33 iX1 (List.mem_cons_of_mem _ (List.mem_append_right _ wgL_5_1.1)) dX1_fits_33 ?_
    refine g_iload C 36 6 dX1_fits_36 rfl ?_
    refine g_iald C 38 (10 + 61) 0 (wX_arr 61 (by decide)) rfl dX1_fits_38 ?_
    refine g_iload_n C 39 3 dX1_fits_39 rfl ?_
    refine g_jn0 55 ([(0, .ref (ad 8)), (1, .ref (ad 1)), (2, .ref (ad 6)), (3, .int p3), (4, .int p4), (5, .int p5), (6, .int x1)]) ([]) (fun u5 => ?_) (fun J55 hJ55 => ?_)
    · skip
      refine g_aload_n C 55 2 dX1_fits_55 rfl ?_
      refine g_callVi (st := []) (As := []) C EX_ok EX_vm 56 6 0 (tX5_verdictHeld F u5) rfl gX1_fits_X5_verdictHeld rfl rfl rfl (by decide +kernel) ⟨Nat.le_of_ble_eq_true rfl, Nat.le_of_ble_eq_true rfl⟩ rfl rfl rfl (Nat.le_of_ble_eq_true rfl) dX1_fits_56 (fun r7 u6 => ?_)
      refine g_aload_n C 59 0 dX1_fits_59 rfl ?_
      refine gfX_X1_verdict C 60 iX1 (List.mem_cons_of_mem _ (List.mem_append_right _ wgL_5_2.1)) dX1_fits_60 ?_
      refine g_iload C 63 6 dX1_fits_63 rfl ?_
      refine g_iald C 65 (10 + 62) 0 (wX_arr 62 (by decide)) rfl dX1_fits_65 ?_
      refine g_icmp_eq C 66 71 dX1_fits_66 (by decide) ?_ ?_
      · skip
        refine g_iinc C 71 6 [(6, .int (x1 + 1)), (0, .ref (ad 8)), (1, .ref (ad 1)), (2, .ref (ad 6)), (3, .int p3), (4, .int p4), (5, .int p5)] dX1_fits_71 rfl rfl (by decide) rfl ?_
        refine g_goto C 74 3 dX1_fits_74 (by decide) ?_
        exact g_sub _ [1, 2, 3, 4, 5, 6, 0] rfl (hself3 (x1 + 1) u6)
      · skip
        refine g_iconst C 69 0 dX1_fits_69 rfl ?_
        exact g_nret C 70 rfl dX1_fits_70
    · skip
      refine g_icmp_ne C 40 55 dX1_fits_40 (by decide) ?_ ?_
      · skip
        exact g_sub _ [0, 1, 2, 3, 4, 5, 6] rfl (hJ55 u4)
      · skip
        refine g_aload_n C 43 2 dX1_fits_43 rfl ?_
        refine g_iload C 44 4 dX1_fits_44 rfl ?_
        refine pfX_X5_habit C 46 iX5 (List.mem_cons_of_mem _ (List.mem_append_right _ wgL_40_9.1)) dX1_fits_46 (fun u8 => ?_)
        refine g_aload_n C 49 2 dX1_fits_49 rfl ?_
        refine g_iload C 50 5 dX1_fits_50 rfl ?_
        refine pfX_X5_slow C 52 iX5 (List.mem_cons_of_mem _ (List.mem_append_right _ wgL_40_10.1)) dX1_fits_52 (fun u9 => ?_)
        exact g_sub _ [0, 1, 2, 3, 4, 5, 6] rfl (hJ55 u9)
def bX6_habitsAsSeen_4 (F : Nat) (p1 : Int32) (self4 : Int32 → Int32 → St → Option (Int32 × St)) (x1 : Int32) (x2 : Int32) (u3 : St) : Option (Int32 × St) :=
  if 4 ≤ x2 then some (x1, u3) else gd (inb p1 3) (bd (pX1_fits F p1 x2 (u3.2 8 (Int32.toNatClampNeg p1)) u3) (fun (r6 : Int32) (u5 : St) => jn (fun (a7 : Int32) (u8 : St) => vl (x1 ||| a7) (fun v9 => (self4 v9 (x2 + 1) u8))) (fun (J46 : Int32 → St → Option (Int32 × St)) => if r6 = 0 then (J46 0 u5) else (J46 (1 <<< (x2 &&& 31)) u5))))
def pX6_habitsAsSeen (F : Nat) (p1 : Int32) (u : St) : Option (Int32 × St) :=
  (lq2 (bX6_habitsAsSeen_4 F p1) F 0 0 u)
set_option maxRecDepth 100000 in
set_option maxHeartbeats 4000000 in
theorem tX6_habitsAsSeen {l : Launch} {D : va_G} {cI cZ : ClassId} {ad : Nat → Nat} {tBURNS tFLAME_BOUNDS : Nat} {tS : Option Nat} {adK adV : Nat → Nat} (F : Nat) (p1 : Int32) (u : St) : CtI l D [(cI, .int), (cZ, .boolean)] (wX ad cI cZ) (EX tBURNS tFLAME_BOUNDS tS adK adV) yX6_habitsAsSeen wsX6_habitsAsSeen ({ frames := 4, cells := 0, slots := 0, locals := 88 } : Room) [.ref (ad 0), .int p1] u (pX6_habitsAsSeen F p1 u) := by
  refine ctI_of (own := RX6) (cc := cX6_habitsAsSeen) (n := 4) (ret := (some .int)) (by decide) rfl rfl (Nat.le_of_ble_eq_true rfl) (lv := [(0, .ref (ad 0)), (1, .int p1)]) rfl (fun C => ?_)
  have iX0 : ∀ w ∈ wsX00, w ∈ wsX6_habitsAsSeen := fun w h => List.mem_cons_of_mem _ (List.mem_append_right _ (inlX0 w h))
  have iX6 : ∀ w ∈ wsX60, w ∈ wsX6_habitsAsSeen := fun w h => List.mem_cons_of_mem _ (List.mem_append_right _ (inlX6 w h))
  rw [pX6_habitsAsSeen]
  refine g_iconst C 0 0 dX6_habitsAsSeen_0 rfl ?_
  refine g_istore_n C 1 [(2, .int 0), (0, .ref (ad 0)), (1, .int p1)] dX6_habitsAsSeen_1 (by decide) rfl ?_
  refine g_iconst C 2 0 dX6_habitsAsSeen_2 rfl ?_
  refine g_istore_n C 3 [(3, .int 0), (2, .int 0), (0, .ref (ad 0)), (1, .int p1)] dX6_habitsAsSeen_3 (by decide) rfl ?_
  refine g_sub _ [2, 3, 1, 0] rfl ?_
  refine g_lq2 (fun (x1 : Int32) (x2 : Int32) => [(0, .ref (ad 0)), (1, .int p1), (2, .int x1), (3, .int x2)]) (fun self4 hself4 x1 x2 u3 => ?_) F 0 0 u
  rw [bX6_habitsAsSeen_4]
  refine g_iload_n C 4 3 dX6_habitsAsSeen_4 rfl ?_
  refine g_iconst C 5 4 dX6_habitsAsSeen_5 rfl ?_
  refine g_icmp_ge C 6 54 dX6_habitsAsSeen_6 (by decide) ?_ ?_
  · skip
    refine g_iload_n C 54 2 dX6_habitsAsSeen_54 rfl ?_
    exact g_iret C 55 dX6_habitsAsSeen_55
  · skip
    refine g_iload_n C 9 2 dX6_habitsAsSeen_9 rfl ?_
    refine g_aload_n C 10 0 dX6_habitsAsSeen_10 rfl ?_
    refine gfX_X6_memory C 11 iX6 (List.mem_cons_of_mem _ (List.mem_append_right _ wgL_2_11.1)) dX6_habitsAsSeen_11 ?_
    refine g_aload_n C 14 0 dX6_habitsAsSeen_14 rfl ?_
    refine gfX_X6_court C 15 iX6 (List.mem_cons_of_mem _ (List.mem_append_right _ wgL_1_15.1)) dX6_habitsAsSeen_15 ?_
    refine g_aload_n C 18 0 dX6_habitsAsSeen_18 rfl ?_
    refine gfX_X6_trial C 19 iX6 (List.mem_cons_of_mem _ (List.mem_append_right _ wgL_2_3.1)) dX6_habitsAsSeen_19 ?_
    refine g_iload_n C 22 1 dX6_habitsAsSeen_22 rfl ?_
    refine g_iload_n C 23 3 dX6_habitsAsSeen_23 rfl ?_
    refine g_aload_n C 24 0 dX6_habitsAsSeen_24 rfl ?_
    refine gfX_X6_court C 25 iX6 (List.mem_cons_of_mem _ (List.mem_append_right _ wgL_1_15.1)) dX6_habitsAsSeen_25 ?_
    refine gfX_X0_slow 0 (by decide) C 28 iX0 (List.mem_cons_of_mem _ (List.mem_append_right _ wgL_21_0.1)) dX6_habitsAsSeen_28 ?_
    refine g_iload_n C 31 1 dX6_habitsAsSeen_31 rfl ?_
    refine g_iald C 32 (10 + 8) 0 (wX_arr 8 (by decide)) rfl dX6_habitsAsSeen_32 ?_
    refine g_callVi (st := [.int x1]) (As := [.ref (ad 1), .ref (ad 6), .int p1, .int x2, .int (u3.2 8 (Int32.toNatClampNeg p1))]) C EX_ok EX_vm 33 8 5 (tX1_fits F p1 x2 (u3.2 8 (Int32.toNatClampNeg p1)) u3) rfl gX6_habitsAsSeen_X1_fits rfl rfl rfl (by decide +kernel) ⟨Nat.le_of_ble_eq_true rfl, Nat.le_of_ble_eq_true rfl⟩ rfl rfl rfl (Nat.le_of_ble_eq_true rfl) dX6_habitsAsSeen_33 (fun r6 u5 => ?_)
    refine g_jn1 46 (fun (a7 : Int32) => [(0, .ref (ad 0)), (1, .int p1), (3, .int x2)]) (fun (a7 : Int32) => [.int a7, .int x1]) (fun a7 u8 => ?_) (fun J46 hJ46 => ?_)
    · skip
      refine g_ior C 46 dX6_habitsAsSeen_46 ?_
      refine g_istore_nV C 47 (fun v9 => [(2, .int v9), (0, .ref (ad 0)), (1, .int p1), (3, .int x2)]) dX6_habitsAsSeen_47 (by decide) (fun _ => rfl) (fun v9 => ?_)
      refine g_iinc C 48 3 [(3, .int (x2 + 1)), (2, .int v9), (0, .ref (ad 0)), (1, .int p1)] dX6_habitsAsSeen_48 rfl rfl (by decide) rfl ?_
      refine g_goto C 51 4 dX6_habitsAsSeen_51 (by decide) ?_
      exact g_sub _ [2, 3, 1, 0] rfl (hself4 v9 (x2 + 1) u8)
    · skip
      refine g_if_eq C 36 45 dX6_habitsAsSeen_36 (by decide) ?_ ?_
      · skip
        refine g_iconst C 45 0 dX6_habitsAsSeen_45 rfl ?_
        exact g_sub _ [0, 1, 3] rfl (hJ46 0 u5)
      · skip
        refine g_iconst C 39 1 dX6_habitsAsSeen_39 rfl ?_
        refine g_iload_n C 40 3 dX6_habitsAsSeen_40 rfl ?_
        refine g_ishl C 41 dX6_habitsAsSeen_41 ?_
        refine g_goto C 42 46 dX6_habitsAsSeen_42 (by decide) ?_
        exact g_sub _ [0, 1, 3] rfl (hJ46 (1 <<< (x2 &&& 31)) u5)
def pX6_habits (F : Nat) (p1 : Int32) (u : St) : Option (Int32 × St) :=
  bd (pX0_hasJudge F 0 p1 u) (fun (r2 : Int32) (u1 : St) => if r2 = 0 then some ((-1), u1) else bd (pX6_habitsAsSeen F p1 u1) (fun (r4 : Int32) (u3 : St) => some (r4, u3)))
set_option maxRecDepth 100000 in
set_option maxHeartbeats 4000000 in
theorem tX6_habits {l : Launch} {D : va_G} {cI cZ : ClassId} {ad : Nat → Nat} {tBURNS tFLAME_BOUNDS : Nat} {tS : Option Nat} {adK adV : Nat → Nat} (F : Nat) (p1 : Int32) (u : St) : CtI l D [(cI, .int), (cZ, .boolean)] (wX ad cI cZ) (EX tBURNS tFLAME_BOUNDS tS adK adV) yX6_habits wsX6_habits ({ frames := 5, cells := 0, slots := 0, locals := 111 } : Room) [.ref (ad 0), .int p1] u (pX6_habits F p1 u) := by
  refine ctI_of (own := RX6) (cc := cX6_habits) (n := 2) (ret := (some .int)) (by decide) rfl rfl (Nat.le_of_ble_eq_true rfl) (lv := [(0, .ref (ad 0)), (1, .int p1)]) rfl (fun C => ?_)
  have iX6 : ∀ w ∈ wsX60, w ∈ wsX6_habits := fun w h => List.mem_cons_of_mem _ (List.mem_append_right _ (inlX6 w h))
  rw [pX6_habits]
  refine g_aload_n C 0 0 dX6_habits_0 rfl ?_
  refine gfX_X6_court C 1 iX6 (List.mem_cons_of_mem _ (List.mem_append_right _ wgL_1_15.1)) dX6_habits_1 ?_
  refine g_iload_n C 4 1 dX6_habits_4 rfl ?_
  refine g_callVi (st := []) (As := [.int p1]) C EX_ok EX_vm 5 1 1 (tX0_hasJudge F 0 (by decide) p1 u) rfl gX6_habits_X0_hasJudge rfl rfl rfl (by decide +kernel) ⟨Nat.le_of_ble_eq_true rfl, Nat.le_of_ble_eq_true rfl⟩ (wX_X0 ad cI cZ _ 0 (by decide)) rfl rfl (Nat.le_of_ble_eq_true rfl) dX6_habits_5 (fun r2 u1 => ?_)
  refine g_if_eq C 8 19 dX6_habits_8 (by decide) ?_ ?_
  · skip
    refine g_iconst C 19 (-1) dX6_habits_19 rfl ?_
    exact g_iret C 20 dX6_habits_20
  · skip
    refine g_aload_n C 11 0 dX6_habits_11 rfl ?_
    refine g_iload_n C 12 1 dX6_habits_12 rfl ?_
    refine g_callVi (st := []) (As := [.int p1]) C EX_ok EX_vm 13 0 1 (tX6_habitsAsSeen F p1 u1) rfl gX6_habits_X6_habitsAsSeen rfl rfl rfl (by decide +kernel) ⟨Nat.le_of_ble_eq_true rfl, Nat.le_of_ble_eq_true rfl⟩ rfl rfl rfl (Nat.le_of_ble_eq_true rfl) dX6_habits_13 (fun r4 u3 => ?_)
    refine g_goto C 16 20 dX6_habits_16 (by decide) ?_
    exact g_iret C 20 dX6_habits_20
def bX6_slows_17 (F : Nat) (p1 : Int32) (self6 : Int32 → Int32 → St → Option (Int32 × St)) (x3 : Int32) (x4 : Int32) (u5 : St) : Option (Int32 × St) :=
  if 9 < x4 then some (x3, u5) else gd (inb p1 3) (bd (pX1_fits F p1 (u5.2 7 (Int32.toNatClampNeg p1)) x4 u5) (fun (r8 : Int32) (u7 : St) => jn (fun (a9 : Int32) (u10 : St) => (self6 a9 (x4 + 1) u10)) (fun (J58 : Int32 → St → Option (Int32 × St)) => if r8 = 0 then (J58 x3 u7) else vl (x3 ||| (1 <<< (x4 &&& 31))) (fun v11 => (J58 v11 u7)))))
def pX6_slows (F : Nat) (p1 : Int32) (u : St) : Option (Int32 × St) :=
  bd (pX0_hasJudge F 0 p1 u) (fun (r2 : Int32) (u1 : St) => if r2 = 0 then some ((-1), u1) else (lq2 (bX6_slows_17 F p1) F 0 1 u1))
set_option maxRecDepth 100000 in
set_option maxHeartbeats 4000000 in
theorem tX6_slows {l : Launch} {D : va_G} {cI cZ : ClassId} {ad : Nat → Nat} {tBURNS tFLAME_BOUNDS : Nat} {tS : Option Nat} {adK adV : Nat → Nat} (F : Nat) (p1 : Int32) (u : St) : CtI l D [(cI, .int), (cZ, .boolean)] (wX ad cI cZ) (EX tBURNS tFLAME_BOUNDS tS adK adV) yX6_slows wsX6_slows ({ frames := 4, cells := 0, slots := 0, locals := 88 } : Room) [.ref (ad 0), .int p1] u (pX6_slows F p1 u) := by
  refine ctI_of (own := RX6) (cc := cX6_slows) (n := 4) (ret := (some .int)) (by decide) rfl rfl (Nat.le_of_ble_eq_true rfl) (lv := [(0, .ref (ad 0)), (1, .int p1)]) rfl (fun C => ?_)
  have iX0 : ∀ w ∈ wsX00, w ∈ wsX6_slows := fun w h => List.mem_cons_of_mem _ (List.mem_append_right _ (inlX0 w h))
  have iX6 : ∀ w ∈ wsX60, w ∈ wsX6_slows := fun w h => List.mem_cons_of_mem _ (List.mem_append_right _ (inlX6 w h))
  rw [pX6_slows]
  refine g_aload_n C 0 0 dX6_slows_0 rfl ?_
  refine gfX_X6_court C 1 iX6 (List.mem_cons_of_mem _ (List.mem_append_right _ wgL_1_15.1)) dX6_slows_1 ?_
  refine g_iload_n C 4 1 dX6_slows_4 rfl ?_
  refine g_callVi (st := []) (As := [.int p1]) C EX_ok EX_vm 5 1 1 (tX0_hasJudge F 0 (by decide) p1 u) rfl gX6_slows_X0_hasJudge rfl rfl rfl (by decide +kernel) ⟨Nat.le_of_ble_eq_true rfl, Nat.le_of_ble_eq_true rfl⟩ (wX_X0 ad cI cZ _ 0 (by decide)) rfl rfl (Nat.le_of_ble_eq_true rfl) dX6_slows_5 (fun r2 u1 => ?_)
  refine g_if_ne C 8 13 dX6_slows_8 (by decide) ?_ ?_
  · skip
    refine g_iconst C 13 0 dX6_slows_13 rfl ?_
    refine g_istore_n C 14 [(2, .int 0), (0, .ref (ad 0)), (1, .int p1)] dX6_slows_14 (by decide) rfl ?_
    refine g_iconst C 15 1 dX6_slows_15 rfl ?_
    refine g_istore_n C 16 [(3, .int 1), (2, .int 0), (0, .ref (ad 0)), (1, .int p1)] dX6_slows_16 (by decide) rfl ?_
    refine g_sub _ [2, 3, 1, 0] rfl ?_
    refine g_lq2 (fun (x3 : Int32) (x4 : Int32) => [(0, .ref (ad 0)), (1, .int p1), (2, .int x3), (3, .int x4)]) (fun self6 hself6 x3 x4 u5 => ?_) F 0 1 u1
    rw [bX6_slows_17]
    refine g_iload_n C 17 3 dX6_slows_17 rfl ?_
    refine g_bipush C 18 9 dX6_slows_18 rfl ?_
    refine g_icmp_gt C 20 64 dX6_slows_20 (by decide) ?_ ?_
    · skip
      refine g_iload_n C 64 2 dX6_slows_64 rfl ?_
      exact g_iret C 65 dX6_slows_65
    · skip
      refine g_aload_n C 23 0 dX6_slows_23 rfl ?_
      refine gfX_X6_memory C 24 iX6 (List.mem_cons_of_mem _ (List.mem_append_right _ wgL_2_11.1)) dX6_slows_24 ?_
      refine g_aload_n C 27 0 dX6_slows_27 rfl ?_
      refine gfX_X6_court C 28 iX6 (List.mem_cons_of_mem _ (List.mem_append_right _ wgL_1_15.1)) dX6_slows_28 ?_
      refine g_aload_n C 31 0 dX6_slows_31 rfl ?_
      refine gfX_X6_trial C 32 iX6 (List.mem_cons_of_mem _ (List.mem_append_right _ wgL_2_3.1)) dX6_slows_32 ?_
      refine g_iload_n C 35 1 dX6_slows_35 rfl ?_
      refine g_aload_n C 36 0 dX6_slows_36 rfl ?_
      refine gfX_X6_court C 37 iX6 (List.mem_cons_of_mem _ (List.mem_append_right _ wgL_1_15.1)) dX6_slows_37 ?_
      refine gfX_X0_habit 0 (by decide) C 40 iX0 (List.mem_cons_of_mem _ (List.mem_append_right _ wgL_20_23.1)) dX6_slows_40 ?_
      refine g_iload_n C 43 1 dX6_slows_43 rfl ?_
      refine g_iald C 44 (10 + 7) 0 (wX_arr 7 (by decide)) rfl dX6_slows_44 ?_
      refine g_iload_n C 45 3 dX6_slows_45 rfl ?_
      refine g_callVi (st := []) (As := [.ref (ad 1), .ref (ad 6), .int p1, .int (u5.2 7 (Int32.toNatClampNeg p1)), .int x4]) C EX_ok EX_vm 46 8 5 (tX1_fits F p1 (u5.2 7 (Int32.toNatClampNeg p1)) x4 u5) rfl gX6_slows_X1_fits rfl rfl rfl (by decide +kernel) ⟨Nat.le_of_ble_eq_true rfl, Nat.le_of_ble_eq_true rfl⟩ rfl rfl rfl (Nat.le_of_ble_eq_true rfl) dX6_slows_46 (fun r8 u7 => ?_)
      refine g_jn1 58 (fun (a9 : Int32) => [(0, .ref (ad 0)), (1, .int p1), (2, .int a9), (3, .int x4)]) (fun (a9 : Int32) => []) (fun a9 u10 => ?_) (fun J58 hJ58 => ?_)
      · skip
        refine g_iinc C 58 3 [(3, .int (x4 + 1)), (0, .ref (ad 0)), (1, .int p1), (2, .int a9)] dX6_slows_58 rfl rfl (by decide) rfl ?_
        refine g_goto C 61 17 dX6_slows_61 (by decide) ?_
        exact g_sub _ [1, 2, 3, 0] rfl (hself6 a9 (x4 + 1) u10)
      · skip
        refine g_if_eq C 49 58 dX6_slows_49 (by decide) ?_ ?_
        · skip
          exact g_sub _ [0, 1, 2, 3] rfl (hJ58 x3 u7)
        · skip
          refine g_iload_n C 52 2 dX6_slows_52 rfl ?_
          refine g_iconst C 53 1 dX6_slows_53 rfl ?_
          refine g_iload_n C 54 3 dX6_slows_54 rfl ?_
          refine g_ishl C 55 dX6_slows_55 ?_
          refine g_ior C 56 dX6_slows_56 ?_
          refine g_istore_nV C 57 (fun v11 => [(2, .int v11), (0, .ref (ad 0)), (1, .int p1), (3, .int x4)]) dX6_slows_57 (by decide) (fun _ => rfl) (fun v11 => ?_)
          exact g_sub _ [1, 2, 0, 3] rfl (hJ58 v11 u7)
  · skip
    refine g_iconst C 11 (-1) dX6_slows_11 rfl ?_
    exact g_iret C 12 dX6_slows_12
def jX6_leftAtTheWorst_77 (F : Nat) (x1 : Int32) (x2 : Int32) (self4 : Int32 → Int32 → St → Option (Int32 × St)) (a5 : Int32) (u6 : St) : Option (Int32 × St) :=
  vl (if x1 < a5 then a5 else x1) (fun v7 => (self4 v7 (x2 + 1) u6))
def bX6_leftAtTheWorst_18 (F : Nat) (p1 : Int32) (p2 : Int32) (p3 : Int32) (x2 : Int32) (J77 : Int32 → St → Option (Int32 × St)) (self11 : Int32 → Int32 → St → Option (Int32 × St)) (x8 : Int32) (x9 : Int32) (u10 : St) : Option (Int32 × St) :=
  if 4 ≤ x9 then (J77 x8 u10) else bd (pX6_prepare F p1 p2 0 u10) (fun (_ : Unit) (u12 : St) => vl (stf u12 24 x9) (fun (u13 : St) => jn (fun (a14 : Int32) (u15 : St) => vl (x8 + a14) (fun v16 => (self11 v16 (x9 + 1) u15))) (fun (J68 : Int32 → St → Option (Int32 × St)) => jn (fun (u17 : St) => (J68 0 u17)) (fun (J67 : St → Option (Int32 × St)) => if ((p3 >>> (x9 &&& 31)) &&& 1) = 0 then (J67 u13) else bd (pX5_verdictHeld F u13) (fun (r19 : Int32) (u18 : St) => if r19 = x2 then (J68 1 u18) else (J67 u18))))))
def bX6_leftAtTheWorst_6 (F : Nat) (p1 : Int32) (p2 : Int32) (p3 : Int32) (self4 : Int32 → Int32 → St → Option (Int32 × St)) (x1 : Int32) (x2 : Int32) (u3 : St) : Option (Int32 × St) :=
  if 3 < x2 then some (x1, u3) else jn (jX6_leftAtTheWorst_77 F x1 x2 self4) (fun (J77 : Int32 → St → Option (Int32 × St)) => (lq2 (bX6_leftAtTheWorst_18 F p1 p2 p3 x2 J77) F 0 0 u3))
def pX6_leftAtTheWorst (F : Nat) (p1 : Int32) (p2 : Int32) (p3 : Int32) (u : St) : Option (Int32 × St) :=
  (lq2 (bX6_leftAtTheWorst_6 F p1 p2 p3) F 0 1 u)
set_option maxRecDepth 100000 in
set_option maxHeartbeats 4000000 in
theorem tX6_leftAtTheWorst {l : Launch} {D : va_G} {cI cZ : ClassId} {ad : Nat → Nat} {tBURNS tFLAME_BOUNDS : Nat} {tS : Option Nat} {adK adV : Nat → Nat} (F : Nat) (p1 : Int32) (p2 : Int32) (p3 : Int32) (u : St) : CtI l D [(cI, .int), (cZ, .boolean)] (wX ad cI cZ) (EX tBURNS tFLAME_BOUNDS tS adK adV) yX6_leftAtTheWorst wsX6_leftAtTheWorst ({ frames := 4, cells := 0, slots := 0, locals := 85 } : Room) [.ref (ad 0), .int p1, .int p2, .int p3] u (pX6_leftAtTheWorst F p1 p2 p3 u) := by
  refine ctI_of (own := RX6) (cc := cX6_leftAtTheWorst) (n := 8) (ret := (some .int)) (by decide) rfl rfl (Nat.le_of_ble_eq_true rfl) (lv := [(0, .ref (ad 0)), (1, .int p1), (2, .int p2), (3, .int p3)]) rfl (fun C => ?_)
  have iX5 : ∀ w ∈ wsX50, w ∈ wsX6_leftAtTheWorst := fun w h => List.mem_cons_of_mem _ (List.mem_append_right _ (inlX5 w h))
  have iX6 : ∀ w ∈ wsX60, w ∈ wsX6_leftAtTheWorst := fun w h => List.mem_cons_of_mem _ (List.mem_append_right _ (inlX6 w h))
  rw [pX6_leftAtTheWorst]
  refine g_iconst C 0 0 dX6_leftAtTheWorst_0 rfl ?_
  refine g_istore C 1 [(4, .int 0), (0, .ref (ad 0)), (1, .int p1), (2, .int p2), (3, .int p3)] dX6_leftAtTheWorst_1 (by decide) rfl ?_
  refine g_iconst C 3 1 dX6_leftAtTheWorst_3 rfl ?_
  refine g_istore C 4 [(5, .int 1), (4, .int 0), (0, .ref (ad 0)), (1, .int p1), (2, .int p2), (3, .int p3)] dX6_leftAtTheWorst_4 (by decide) rfl ?_
  refine g_sub _ [2, 3, 4, 5, 1, 0] rfl ?_
  refine g_lq2 (fun (x1 : Int32) (x2 : Int32) => [(0, .ref (ad 0)), (1, .int p1), (2, .int p2), (3, .int p3), (4, .int x1), (5, .int x2)]) (fun self4 hself4 x1 x2 u3 => ?_) F 0 1 u
  rw [bX6_leftAtTheWorst_6]
  refine g_iload C 6 5 dX6_leftAtTheWorst_6 rfl ?_
  refine g_iconst C 8 3 dX6_leftAtTheWorst_8 rfl ?_
  refine g_icmp_gt C 9 92 dX6_leftAtTheWorst_9 (by decide) ?_ ?_
  · skip
    refine g_iload C 92 4 dX6_leftAtTheWorst_92 rfl ?_
    exact g_iret C 94 dX6_leftAtTheWorst_94
  · skip
    refine g_iconst C 12 0 dX6_leftAtTheWorst_12 rfl ?_
    refine g_istore C 13 [(6, .int 0), (0, .ref (ad 0)), (1, .int p1), (2, .int p2), (3, .int p3), (4, .int x1), (5, .int x2)] dX6_leftAtTheWorst_13 (by decide) rfl ?_
    refine g_iconst C 15 0 dX6_leftAtTheWorst_15 rfl ?_
    refine g_istore C 16 [(7, .int 0), (6, .int 0), (0, .ref (ad 0)), (1, .int p1), (2, .int p2), (3, .int p3), (4, .int x1), (5, .int x2)] dX6_leftAtTheWorst_16 (by decide) rfl ?_
    refine g_jn1 77 (fun (a5 : Int32) => [(0, .ref (ad 0)), (1, .int p1), (2, .int p2), (3, .int p3), (4, .int x1), (5, .int x2), (6, .int a5)]) (fun (a5 : Int32) => []) (fun a5 u6 => ?_) (fun J77 hJ77 => ?_)
    · skip
      rw [jX6_leftAtTheWorst_77]
      refine g_iload C 77 4 dX6_leftAtTheWorst_77 rfl ?_
      refine g_iload C 79 6 dX6_leftAtTheWorst_79 rfl ?_
      refine g_mmax C 81 (by decide +kernel) (by decide +kernel) (by decide +kernel) (by decide +kernel) ⟨Nat.le_of_ble_eq_true rfl, Nat.le_of_ble_eq_true rfl⟩ dX6_leftAtTheWorst_81 ?_
      refine g_istoreV C 84 (fun v7 => [(4, .int v7), (0, .ref (ad 0)), (1, .int p1), (2, .int p2), (3, .int p3), (5, .int x2), (6, .int a5)]) dX6_leftAtTheWorst_84 (by decide) (fun _ => rfl) (fun v7 => ?_)
      refine g_iinc C 86 5 [(5, .int (x2 + 1)), (4, .int v7), (0, .ref (ad 0)), (1, .int p1), (2, .int p2), (3, .int p3), (6, .int a5)] dX6_leftAtTheWorst_86 rfl rfl (by decide) rfl ?_
      refine g_goto C 89 6 dX6_leftAtTheWorst_89 (by decide) ?_
      exact g_sub _ [2, 3, 4, 5, 1, 0] rfl (hself4 v7 (x2 + 1) u6)
    · skip
      refine g_sub _ [2, 3, 4, 5, 6, 7, 1, 0] rfl ?_
      refine g_lq2 (fun (x8 : Int32) (x9 : Int32) => [(0, .ref (ad 0)), (1, .int p1), (2, .int p2), (3, .int p3), (4, .int x1), (5, .int x2), (6, .int x8), (7, .int x9)]) (fun self11 hself11 x8 x9 u10 => ?_) F 0 0 u3
      rw [bX6_leftAtTheWorst_18]
      refine g_iload C 18 7 dX6_leftAtTheWorst_18 rfl ?_
      refine g_iconst C 20 4 dX6_leftAtTheWorst_20 rfl ?_
      refine g_icmp_ge C 21 77 dX6_leftAtTheWorst_21 (by decide) ?_ ?_
      · skip
        exact g_sub _ [0, 1, 2, 3, 4, 5, 6] rfl (hJ77 x8 u10)
      · skip
        refine g_aload_n C 24 0 dX6_leftAtTheWorst_24 rfl ?_
        refine g_iload_n C 25 1 dX6_leftAtTheWorst_25 rfl ?_
        refine g_iload_n C 26 2 dX6_leftAtTheWorst_26 rfl ?_
        refine g_iconst C 27 0 dX6_leftAtTheWorst_27 rfl ?_
        refine g_callVv (st := []) (As := [.int p1, .int p2, .int 0]) C EX_ok EX_vm 28 0 3 (tX6_prepare F p1 p2 0 u10) rfl gX6_leftAtTheWorst_X6_prepare rfl rfl rfl (by decide +kernel) ⟨Nat.le_of_ble_eq_true rfl, Nat.le_of_ble_eq_true rfl⟩ rfl rfl rfl (Nat.le_of_ble_eq_true rfl) dX6_leftAtTheWorst_28 (fun u12 => ?_)
        refine g_aload_n C 31 0 dX6_leftAtTheWorst_31 rfl ?_
        refine gfX_X6_trial C 32 iX6 (List.mem_cons_of_mem _ (List.mem_append_right _ wgL_2_3.1)) dX6_leftAtTheWorst_32 ?_
        refine g_iload C 35 7 dX6_leftAtTheWorst_35 rfl ?_
        refine pfX_X5_habit C 37 iX5 (List.mem_cons_of_mem _ (List.mem_append_right _ wgL_41_17.1)) dX6_leftAtTheWorst_37 (fun u13 => ?_)
        refine g_iload C 40 6 dX6_leftAtTheWorst_40 rfl ?_
        refine g_iload_n C 42 3 dX6_leftAtTheWorst_42 rfl ?_
        refine g_iload C 43 7 dX6_leftAtTheWorst_43 rfl ?_
        refine g_ishr C 45 dX6_leftAtTheWorst_45 ?_
        refine g_iconst C 46 1 dX6_leftAtTheWorst_46 rfl ?_
        refine g_iand C 47 dX6_leftAtTheWorst_47 ?_
        refine g_jn1 68 (fun (a14 : Int32) => [(0, .ref (ad 0)), (1, .int p1), (2, .int p2), (3, .int p3), (4, .int x1), (5, .int x2), (7, .int x9)]) (fun (a14 : Int32) => [.int a14, .int x8]) (fun a14 u15 => ?_) (fun J68 hJ68 => ?_)
        · skip
          refine g_iadd C 68 dX6_leftAtTheWorst_68 ?_
          refine g_istoreV C 69 (fun v16 => [(6, .int v16), (0, .ref (ad 0)), (1, .int p1), (2, .int p2), (3, .int p3), (4, .int x1), (5, .int x2), (7, .int x9)]) dX6_leftAtTheWorst_69 (by decide) (fun _ => rfl) (fun v16 => ?_)
          refine g_iinc C 71 7 [(7, .int (x9 + 1)), (6, .int v16), (0, .ref (ad 0)), (1, .int p1), (2, .int p2), (3, .int p3), (4, .int x1), (5, .int x2)] dX6_leftAtTheWorst_71 rfl rfl (by decide) rfl ?_
          refine g_goto C 74 18 dX6_leftAtTheWorst_74 (by decide) ?_
          exact g_sub _ [2, 3, 4, 5, 6, 7, 1, 0] rfl (hself11 v16 (x9 + 1) u15)
        · skip
          refine g_jn0 67 ([(0, .ref (ad 0)), (1, .int p1), (2, .int p2), (3, .int p3), (4, .int x1), (5, .int x2), (7, .int x9)]) ([.int x8]) (fun u17 => ?_) (fun J67 hJ67 => ?_)
          · skip
            refine g_iconst C 67 0 dX6_leftAtTheWorst_67 rfl ?_
            exact g_sub _ [0, 1, 2, 3, 4, 5, 6] rfl (hJ68 0 u17)
          · skip
            refine g_if_eq C 48 67 dX6_leftAtTheWorst_48 (by decide) ?_ ?_
            · skip
              exact g_sub _ [0, 1, 2, 3, 4, 5, 7] rfl (hJ67 u13)
            · skip
              refine g_aload_n C 51 0 dX6_leftAtTheWorst_51 rfl ?_
              refine gfX_X6_trial C 52 iX6 (List.mem_cons_of_mem _ (List.mem_append_right _ wgL_2_3.1)) dX6_leftAtTheWorst_52 ?_
              refine g_callVi (st := [.int x8]) (As := []) C EX_ok EX_vm 55 6 0 (tX5_verdictHeld F u13) rfl gX6_leftAtTheWorst_X5_verdictHeld rfl rfl rfl (by decide +kernel) ⟨Nat.le_of_ble_eq_true rfl, Nat.le_of_ble_eq_true rfl⟩ rfl rfl rfl (Nat.le_of_ble_eq_true rfl) dX6_leftAtTheWorst_55 (fun r19 u18 => ?_)
              refine g_iload C 58 5 dX6_leftAtTheWorst_58 rfl ?_
              refine g_icmp_ne C 60 67 dX6_leftAtTheWorst_60 (by decide) ?_ ?_
              · skip
                exact g_sub _ [0, 1, 2, 3, 4, 5, 7] rfl (hJ67 u18)
              · skip
                refine g_iconst C 63 1 dX6_leftAtTheWorst_63 rfl ?_
                refine g_goto C 64 68 dX6_leftAtTheWorst_64 (by decide) ?_
                exact g_sub _ [0, 1, 2, 3, 4, 5, 7] rfl (hJ68 1 u18)
def jX6_ask_85 (F : Nat) (p2 : Int32) (a9 : Int32) (a10 : Int32) (u11 : St) : Option (Int32 × St) :=
  if a10 = (-4) then some (a10, u11) else if p2 = 0 then some (a10, u11) else some (a9, u11)
def bX6_ask_42 (F : Nat) (p1 : Int32) (r6 : Int32) (J85 : Int32 → Int32 → St → Option (Int32 × St)) (self16 : Int32 → Int32 → Int32 → St → Option (Int32 × St)) (x12 : Int32) (x13 : Int32) (x14 : Int32) (u15 : St) : Option (Int32 × St) :=
  if (u15.1 0) ≤ x14 then (J85 x12 x13 u15) else bd (pX6_leftAtTheWorst F x14 p1 r6 u15) (fun (r18 : Int32) (u17 : St) => jn (fun (a19 : Int32) (a20 : Int32) (u21 : St) => (self16 a19 a20 (x14 + 1) u21)) (fun (J79 : Int32 → Int32 → St → Option (Int32 × St)) => if x12 ≤ r18 then (J79 x12 x13 u17) else (J79 r18 x14 u17)))
def pX6_ask (F : Nat) (p1 : Int32) (p2 : Int32) (u : St) : Option (Int32 × St) :=
  bd (pX0_hasJudge F 0 p1 u) (fun (r2 : Int32) (u1 : St) => if r2 = 0 then some ((-1), u1) else bd (pX6_isIn F (Int32.toInt64 p2) 0 1 u1) (fun (r4 : Int32) (u3 : St) => if r4 = 0 then some ((-1), u3) else bd (pX6_habitsAsSeen F p1 u3) (fun (r6 : Int32) (u5 : St) => bd (pJ6_bitCount_0f7a4 F r6 u5) (fun (r8 : Int32) (u7 : St) => jn (jX6_ask_85 F p2) (fun (J85 : Int32 → Int32 → St → Option (Int32 × St)) => (lq3 (bX6_ask_42 F p1 r6 J85) F r8 (-4) 0 u7))))))
set_option maxRecDepth 100000 in
set_option maxHeartbeats 4000000 in
theorem tX6_ask {l : Launch} {D : va_G} {cI cZ : ClassId} {ad : Nat → Nat} {tBURNS tFLAME_BOUNDS : Nat} {tS : Option Nat} {adK adV : Nat → Nat} (F : Nat) (p1 : Int32) (p2 : Int32) (u : St) : CtI l D [(cI, .int), (cZ, .boolean)] (wX ad cI cZ) (EX tBURNS tFLAME_BOUNDS tS adK adV) yX6_ask wsX6_ask ({ frames := 5, cells := 0, slots := 0, locals := 112 } : Room) [.ref (ad 0), .int p1, .int p2] u (pX6_ask F p1 p2 u) := by
  refine ctI_of (own := RX6) (cc := cX6_ask) (n := 8) (ret := (some .int)) (by decide) rfl rfl (Nat.le_of_ble_eq_true rfl) (lv := [(0, .ref (ad 0)), (1, .int p1), (2, .int p2)]) rfl (fun C => ?_)
  have iX0 : ∀ w ∈ wsX00, w ∈ wsX6_ask := fun w h => List.mem_cons_of_mem _ (List.mem_append_right _ (inlX0 w h))
  have iX6 : ∀ w ∈ wsX60, w ∈ wsX6_ask := fun w h => List.mem_cons_of_mem _ (List.mem_append_right _ (inlX6 w h))
  rw [pX6_ask]
  refine g_aload_n C 0 0 dX6_ask_0 rfl ?_
  refine gfX_X6_court C 1 iX6 (List.mem_cons_of_mem _ (List.mem_append_right _ wgL_1_15.1)) dX6_ask_1 ?_
  refine g_iload_n C 4 1 dX6_ask_4 rfl ?_
  refine g_callVi (st := []) (As := [.int p1]) C EX_ok EX_vm 5 1 1 (tX0_hasJudge F 0 (by decide) p1 u) rfl gX6_ask_X0_hasJudge rfl rfl rfl (by decide +kernel) ⟨Nat.le_of_ble_eq_true rfl, Nat.le_of_ble_eq_true rfl⟩ (wX_X0 ad cI cZ _ 0 (by decide)) rfl rfl (Nat.le_of_ble_eq_true rfl) dX6_ask_5 (fun r2 u1 => ?_)
  refine g_if_eq C 8 21 dX6_ask_8 (by decide) ?_ ?_
  · skip
    refine g_iconst C 21 (-1) dX6_ask_21 rfl ?_
    exact g_iret C 22 dX6_ask_22
  · skip
    refine g_iload_n C 11 2 dX6_ask_11 rfl ?_
    refine g_i2l C 12 dX6_ask_12 ?_
    refine g_iconst C 13 0 dX6_ask_13 rfl ?_
    refine g_iconst C 14 1 dX6_ask_14 rfl ?_
    refine g_callSi (st := []) (As := [.long (Int32.toInt64 p2), .int 0, .int 1]) C EX_ok EX_vm 15 3 (tX6_isIn F (Int32.toInt64 p2) 0 1 u1) rfl gX6_ask_X6_isIn rfl rfl rfl (by decide +kernel) ⟨Nat.le_of_ble_eq_true rfl, Nat.le_of_ble_eq_true rfl⟩ rfl (Nat.le_of_ble_eq_true rfl) dX6_ask_15 (fun r4 u3 => ?_)
    refine g_if_ne C 18 23 dX6_ask_18 (by decide) ?_ ?_
    · skip
      refine g_aload_n C 23 0 dX6_ask_23 rfl ?_
      refine g_iload_n C 24 1 dX6_ask_24 rfl ?_
      refine g_callVi (st := []) (As := [.int p1]) C EX_ok EX_vm 25 0 1 (tX6_habitsAsSeen F p1 u3) rfl gX6_ask_X6_habitsAsSeen rfl rfl rfl (by decide +kernel) ⟨Nat.le_of_ble_eq_true rfl, Nat.le_of_ble_eq_true rfl⟩ rfl rfl rfl (Nat.le_of_ble_eq_true rfl) dX6_ask_25 (fun r6 u5 => ?_)
      refine g_istore_n C 28 [(3, .int r6), (0, .ref (ad 0)), (1, .int p1), (2, .int p2)] dX6_ask_28 (by decide) rfl ?_
      refine g_iload_n C 29 0 dX6_ask_29 rfl ?_
      refine g_callSi (st := []) (As := [.int r6]) C EX_ok EX_vm 30 1 (tJ6_bitCount_0f7a4 F r6 u5) rfl gX6_ask_J6_bitCount_0f7a4 rfl rfl rfl (by decide +kernel) ⟨Nat.le_of_ble_eq_true rfl, Nat.le_of_ble_eq_true rfl⟩ rfl (Nat.le_of_ble_eq_true rfl) dX6_ask_30 (fun r8 u7 => ?_)
      refine g_istore C 33 [(4, .int r8), (3, .int r6), (0, .ref (ad 0)), (1, .int p1), (2, .int p2)] dX6_ask_33 (by decide) rfl ?_
      refine g_bipush C 35 (-4) dX6_ask_35 rfl ?_
      refine g_istore C 37 [(5, .int (-4)), (4, .int r8), (3, .int r6), (0, .ref (ad 0)), (1, .int p1), (2, .int p2)] dX6_ask_37 (by decide) rfl ?_
      refine g_iconst C 39 0 dX6_ask_39 rfl ?_
      refine g_istore C 40 [(6, .int 0), (5, .int (-4)), (4, .int r8), (3, .int r6), (0, .ref (ad 0)), (1, .int p1), (2, .int p2)] dX6_ask_40 (by decide) rfl ?_
      refine g_jn2 85 (fun (a9 : Int32) (a10 : Int32) => [(2, .int p2), (4, .int a9), (5, .int a10)]) (fun (a9 : Int32) (a10 : Int32) => []) (fun a9 a10 u11 => ?_) (fun J85 hJ85 => ?_)
      · skip
        rw [jX6_ask_85]
        refine g_iload C 85 2 dX6_ask_85 rfl ?_
        refine g_bipush C 87 (-4) dX6_ask_87 rfl ?_
        refine g_icmp_eq C 89 96 dX6_ask_89 (by decide) ?_ ?_
        · skip
          refine g_iload C 96 2 dX6_ask_96 rfl ?_
          refine g_goto C 98 103 dX6_ask_98 (by decide) ?_
          exact g_iret C 103 dX6_ask_103
        · skip
          refine g_iload_n C 92 0 dX6_ask_92 rfl ?_
          refine g_if_ne C 93 101 dX6_ask_93 (by decide) ?_ ?_
          · skip
            refine g_iload C 101 1 dX6_ask_101 rfl ?_
            exact g_iret C 103 dX6_ask_103
          · skip
            refine g_iload C 96 2 dX6_ask_96 rfl ?_
            refine g_goto C 98 103 dX6_ask_98 (by decide) ?_
            exact g_iret C 103 dX6_ask_103
      · skip
        refine g_sub _ [4, 5, 6, 3, 2, 1, 0] rfl ?_
        refine g_lq3 (fun (x12 : Int32) (x13 : Int32) (x14 : Int32) => [(0, .ref (ad 0)), (1, .int p1), (2, .int p2), (3, .int r6), (4, .int x12), (5, .int x13), (6, .int x14)]) (fun self16 hself16 x12 x13 x14 u15 => ?_) F r8 (-4) 0 u7
        rw [bX6_ask_42]
        refine g_iload C 42 6 dX6_ask_42 rfl ?_
        refine g_aload_n C 44 0 dX6_ask_44 rfl ?_
        refine gfX_X6_court C 45 iX6 (List.mem_cons_of_mem _ (List.mem_append_right _ wgL_1_15.1)) dX6_ask_45 ?_
        refine gfX_X0_cases 0 (by decide) C 48 iX0 (List.mem_cons_of_mem _ (List.mem_append_right _ wgL_18_5.1)) dX6_ask_48 ?_
        refine g_icmp_ge C 51 85 dX6_ask_51 (by decide) ?_ ?_
        · skip
          exact g_sub _ [2, 4, 5] rfl (hJ85 x12 x13 u15)
        · skip
          refine g_aload_n C 54 0 dX6_ask_54 rfl ?_
          refine g_iload C 55 6 dX6_ask_55 rfl ?_
          refine g_iload_n C 57 1 dX6_ask_57 rfl ?_
          refine g_iload_n C 58 3 dX6_ask_58 rfl ?_
          refine g_callVi (st := []) (As := [.int x14, .int p1, .int r6]) C EX_ok EX_vm 59 0 3 (tX6_leftAtTheWorst F x14 p1 r6 u15) rfl gX6_ask_X6_leftAtTheWorst rfl rfl rfl (by decide +kernel) ⟨Nat.le_of_ble_eq_true rfl, Nat.le_of_ble_eq_true rfl⟩ rfl rfl rfl (Nat.le_of_ble_eq_true rfl) dX6_ask_59 (fun r18 u17 => ?_)
          refine g_istore C 62 [(7, .int r18), (0, .ref (ad 0)), (1, .int p1), (2, .int p2), (3, .int r6), (4, .int x12), (5, .int x13), (6, .int x14)] dX6_ask_62 (by decide) rfl ?_
          refine g_iload C 64 0 dX6_ask_64 rfl ?_
          refine g_iload C 66 5 dX6_ask_66 rfl ?_
          refine g_jn2 79 (fun (a19 : Int32) (a20 : Int32) => [(0, .ref (ad 0)), (1, .int p1), (2, .int p2), (3, .int r6), (4, .int a19), (5, .int a20), (6, .int x14)]) (fun (a19 : Int32) (a20 : Int32) => []) (fun a19 a20 u21 => ?_) (fun J79 hJ79 => ?_)
          · skip
            refine g_iinc C 79 6 [(6, .int (x14 + 1)), (0, .ref (ad 0)), (1, .int p1), (2, .int p2), (3, .int r6), (4, .int a19), (5, .int a20)] dX6_ask_79 rfl rfl (by decide) rfl ?_
            refine g_goto C 82 42 dX6_ask_82 (by decide) ?_
            exact g_sub _ [1, 2, 3, 4, 5, 6, 0] rfl (hself16 a19 a20 (x14 + 1) u21)
          · skip
            refine g_icmp_ge C 68 79 dX6_ask_68 (by decide) ?_ ?_
            · skip
              exact g_sub _ [1, 2, 3, 4, 5, 6, 7] rfl (hJ79 x12 x13 u17)
            · skip
              refine g_iload C 71 0 dX6_ask_71 rfl ?_
              refine g_istore C 73 [(4, .int r18), (7, .int r18), (0, .ref (ad 0)), (1, .int p1), (2, .int p2), (3, .int r6), (5, .int x13), (6, .int x14)] dX6_ask_73 (by decide) rfl ?_
              refine g_iload C 75 7 dX6_ask_75 rfl ?_
              refine g_istore C 77 [(5, .int x14), (4, .int r18), (7, .int r18), (0, .ref (ad 0)), (1, .int p1), (2, .int p2), (3, .int r6), (6, .int x14)] dX6_ask_77 (by decide) rfl ?_
              exact g_sub _ [3, 4, 5, 6, 1, 0, 7] rfl (hJ79 r18 x14 u17)
    · skip
      refine g_iconst C 21 (-1) dX6_ask_21 rfl ?_
      exact g_iret C 22 dX6_ask_22
def pX6_driftVerdict (F : Nat) (p1 : Int32) (u : St) : Option (Int32 × St) :=
  if (u.1 0) = 0 then some (0, u) else if (u.1 1) = 0 then some (0, u) else gd (nz (u.1 0)) (vl (irm p1 (u.1 0)) (fun v1 => gd (nz 8) (gd (nz 2) (gd (nz 16) (gd (nz 20) (gd (inb ((2 * v1) + (irm (p1 / 8) 2)) 8) (vl (sta u 53 ((2 * v1) + (irm (p1 / 8) 2)) (irm (p1 / 16) 20)) (fun (u2 : St) => gd (nz 512) (gd (nz (u2.1 1)) (bd (pX6_prepare F v1 (irm (p1 / 512) (u2.1 1)) 0 u2) (fun (_ : Unit) (u3 : St) => gd (inb (2 * v1) 8) (bd (pX5_change F 0 1 (u3.2 53 (Int32.toNatClampNeg (2 * v1))) u3) (fun (_ : Unit) (u4 : St) => gd (inb ((2 * v1) + 1) 8) (bd (pX5_change F 1 1 (u4.2 53 (Int32.toNatClampNeg ((2 * v1) + 1))) u4) (fun (_ : Unit) (u5 : St) => bd (pX5_verdictHeld F u5) (fun (r7 : Int32) (u6 : St) => gd (inb 0 2) (gd (inb (2 * v1) 8) (vl (sta u6 53 (2 * v1) (u6.2 56 (Int32.toNatClampNeg 0))) (fun (u8 : St) => gd (inb 1 2) (gd (inb ((2 * v1) + 1) 8) (vl (sta u8 53 ((2 * v1) + 1) (u8.2 56 (Int32.toNatClampNeg 1))) (fun (u9 : St) => some (r7, u9)))))))))))))))))))))))
set_option maxRecDepth 100000 in
set_option maxHeartbeats 4000000 in
theorem tX6_driftVerdict {l : Launch} {D : va_G} {cI cZ : ClassId} {ad : Nat → Nat} {tBURNS tFLAME_BOUNDS : Nat} {tS : Option Nat} {adK adV : Nat → Nat} (F : Nat) (p1 : Int32) (u : St) : CtI l D [(cI, .int), (cZ, .boolean)] (wX ad cI cZ) (EX tBURNS tFLAME_BOUNDS tS adK adV) yX6_driftVerdict wsX6_driftVerdict ({ frames := 4, cells := 0, slots := 0, locals := 85 } : Room) [.ref (ad 0), .int p1] u (pX6_driftVerdict F p1 u) := by
  refine ctI_of (own := RX6) (cc := cX6_driftVerdict) (n := 4) (ret := (some .int)) (by decide) rfl rfl (Nat.le_of_ble_eq_true rfl) (lv := [(0, .ref (ad 0)), (1, .int p1)]) rfl (fun C => ?_)
  have iX0 : ∀ w ∈ wsX00, w ∈ wsX6_driftVerdict := fun w h => List.mem_cons_of_mem _ (List.mem_append_right _ (inlX0 w h))
  have iX5 : ∀ w ∈ wsX50, w ∈ wsX6_driftVerdict := fun w h => List.mem_cons_of_mem _ (List.mem_append_right _ (inlX5 w h))
  have iX6 : ∀ w ∈ wsX60, w ∈ wsX6_driftVerdict := fun w h => List.mem_cons_of_mem _ (List.mem_append_right _ (inlX6 w h))
  rw [pX6_driftVerdict]
  refine g_aload_n C 0 0 dX6_driftVerdict_0 rfl ?_
  refine gfX_X6_court C 1 iX6 (List.mem_cons_of_mem _ (List.mem_append_right _ wgL_1_15.1)) dX6_driftVerdict_1 ?_
  refine gfX_X0_cases 0 (by decide) C 4 iX0 (List.mem_cons_of_mem _ (List.mem_append_right _ wgL_18_5.1)) dX6_driftVerdict_4 ?_
  refine g_if_eq C 7 20 dX6_driftVerdict_7 (by decide) ?_ ?_
  · skip
    refine g_iconst C 20 0 dX6_driftVerdict_20 rfl ?_
    exact g_iret C 21 dX6_driftVerdict_21
  · skip
    refine g_aload_n C 10 0 dX6_driftVerdict_10 rfl ?_
    refine gfX_X6_court C 11 iX6 (List.mem_cons_of_mem _ (List.mem_append_right _ wgL_1_15.1)) dX6_driftVerdict_11 ?_
    refine gfX_X0_judges 0 (by decide) C 14 iX0 (List.mem_cons_of_mem _ (List.mem_append_right _ wgL_18_6.1)) dX6_driftVerdict_14 ?_
    refine g_if_ne C 17 22 dX6_driftVerdict_17 (by decide) ?_ ?_
    · skip
      refine g_iload_n C 22 1 dX6_driftVerdict_22 rfl ?_
      refine g_aload_n C 23 0 dX6_driftVerdict_23 rfl ?_
      refine gfX_X6_court C 24 iX6 (List.mem_cons_of_mem _ (List.mem_append_right _ wgL_1_15.1)) dX6_driftVerdict_24 ?_
      refine gfX_X0_cases 0 (by decide) C 27 iX0 (List.mem_cons_of_mem _ (List.mem_append_right _ wgL_18_5.1)) dX6_driftVerdict_27 ?_
      refine g_irem C 30 dX6_driftVerdict_30 ?_
      refine g_istore_nV C 31 (fun v1 => [(2, .int v1), (0, .ref (ad 0)), (1, .int p1)]) dX6_driftVerdict_31 (by decide) (fun _ => rfl) (fun v1 => ?_)
      refine g_aload_n C 32 1 dX6_driftVerdict_32 rfl ?_
      refine gfX_X6_driftLengths C 33 iX6 (List.mem_cons_of_mem _ (List.mem_append_right _ wgL_2_18.1)) dX6_driftVerdict_33 ?_
      refine g_iconst C 36 2 dX6_driftVerdict_36 rfl ?_
      refine g_iload_n C 37 0 dX6_driftVerdict_37 rfl ?_
      refine g_imul C 38 dX6_driftVerdict_38 ?_
      refine g_iload_n C 39 2 dX6_driftVerdict_39 rfl ?_
      refine g_bipush C 40 8 dX6_driftVerdict_40 rfl ?_
      refine g_idiv C 42 dX6_driftVerdict_42 ?_
      refine g_iconst C 43 2 dX6_driftVerdict_43 rfl ?_
      refine g_irem C 44 dX6_driftVerdict_44 ?_
      refine g_iadd C 45 dX6_driftVerdict_45 ?_
      refine g_iload_n C 46 2 dX6_driftVerdict_46 rfl ?_
      refine g_bipush C 47 16 dX6_driftVerdict_47 rfl ?_
      refine g_idiv C 49 dX6_driftVerdict_49 ?_
      refine g_bipush C 50 20 dX6_driftVerdict_50 rfl ?_
      refine g_irem C 52 dX6_driftVerdict_52 ?_
      refine g_iast C 53 (10 + 53) 0 53 (wX_arr 53 (by decide)) (wX_aset 53 (by decide)) rfl dX6_driftVerdict_53 (fun u2 => ?_)
      refine g_aload_n C 54 1 dX6_driftVerdict_54 rfl ?_
      refine g_iload_n C 55 0 dX6_driftVerdict_55 rfl ?_
      refine g_iload_n C 56 2 dX6_driftVerdict_56 rfl ?_
      refine g_sipush C 57 512 dX6_driftVerdict_57 rfl ?_
      refine g_idiv C 60 dX6_driftVerdict_60 ?_
      refine g_aload_n C 61 1 dX6_driftVerdict_61 rfl ?_
      refine gfX_X6_court C 62 iX6 (List.mem_cons_of_mem _ (List.mem_append_right _ wgL_1_15.1)) dX6_driftVerdict_62 ?_
      refine gfX_X0_judges 0 (by decide) C 65 iX0 (List.mem_cons_of_mem _ (List.mem_append_right _ wgL_18_6.1)) dX6_driftVerdict_65 ?_
      refine g_irem C 68 dX6_driftVerdict_68 ?_
      refine g_iconst C 69 0 dX6_driftVerdict_69 rfl ?_
      refine g_callVv (st := []) (As := [.int v1, .int (irm (p1 / 512) (u2.1 1)), .int 0]) C EX_ok EX_vm 70 0 3 (tX6_prepare F v1 (irm (p1 / 512) (u2.1 1)) 0 u2) rfl gX6_driftVerdict_X6_prepare rfl rfl rfl (by decide +kernel) ⟨Nat.le_of_ble_eq_true rfl, Nat.le_of_ble_eq_true rfl⟩ rfl rfl rfl (Nat.le_of_ble_eq_true rfl) dX6_driftVerdict_70 (fun u3 => ?_)
      refine g_aload_n C 73 1 dX6_driftVerdict_73 rfl ?_
      refine gfX_X6_trial C 74 iX6 (List.mem_cons_of_mem _ (List.mem_append_right _ wgL_2_3.1)) dX6_driftVerdict_74 ?_
      refine g_iconst C 77 0 dX6_driftVerdict_77 rfl ?_
      refine g_iconst C 78 1 dX6_driftVerdict_78 rfl ?_
      refine g_aload_n C 79 1 dX6_driftVerdict_79 rfl ?_
      refine gfX_X6_driftLengths C 80 iX6 (List.mem_cons_of_mem _ (List.mem_append_right _ wgL_2_18.1)) dX6_driftVerdict_80 ?_
      refine g_iconst C 83 2 dX6_driftVerdict_83 rfl ?_
      refine g_iload_n C 84 0 dX6_driftVerdict_84 rfl ?_
      refine g_imul C 85 dX6_driftVerdict_85 ?_
      refine g_iald C 86 (10 + 53) 0 (wX_arr 53 (by decide)) rfl dX6_driftVerdict_86 ?_
      refine g_callVv (st := []) (As := [.int 0, .int 1, .int (u3.2 53 (Int32.toNatClampNeg (2 * v1)))]) C EX_ok EX_vm 87 6 3 (tX5_change F 0 1 (u3.2 53 (Int32.toNatClampNeg (2 * v1))) u3) rfl gX6_driftVerdict_X5_change rfl rfl rfl (by decide +kernel) ⟨Nat.le_of_ble_eq_true rfl, Nat.le_of_ble_eq_true rfl⟩ rfl rfl rfl (Nat.le_of_ble_eq_true rfl) dX6_driftVerdict_87 (fun u4 => ?_)
      refine g_aload_n C 90 1 dX6_driftVerdict_90 rfl ?_
      refine gfX_X6_trial C 91 iX6 (List.mem_cons_of_mem _ (List.mem_append_right _ wgL_2_3.1)) dX6_driftVerdict_91 ?_
      refine g_iconst C 94 1 dX6_driftVerdict_94 rfl ?_
      refine g_iconst C 95 1 dX6_driftVerdict_95 rfl ?_
      refine g_aload_n C 96 1 dX6_driftVerdict_96 rfl ?_
      refine gfX_X6_driftLengths C 97 iX6 (List.mem_cons_of_mem _ (List.mem_append_right _ wgL_2_18.1)) dX6_driftVerdict_97 ?_
      refine g_iconst C 100 2 dX6_driftVerdict_100 rfl ?_
      refine g_iload_n C 101 0 dX6_driftVerdict_101 rfl ?_
      refine g_imul C 102 dX6_driftVerdict_102 ?_
      refine g_iconst C 103 1 dX6_driftVerdict_103 rfl ?_
      refine g_iadd C 104 dX6_driftVerdict_104 ?_
      refine g_iald C 105 (10 + 53) 0 (wX_arr 53 (by decide)) rfl dX6_driftVerdict_105 ?_
      refine g_callVv (st := []) (As := [.int 1, .int 1, .int (u4.2 53 (Int32.toNatClampNeg ((2 * v1) + 1)))]) C EX_ok EX_vm 106 6 3 (tX5_change F 1 1 (u4.2 53 (Int32.toNatClampNeg ((2 * v1) + 1))) u4) rfl gX6_driftVerdict_X5_change rfl rfl rfl (by decide +kernel) ⟨Nat.le_of_ble_eq_true rfl, Nat.le_of_ble_eq_true rfl⟩ rfl rfl rfl (Nat.le_of_ble_eq_true rfl) dX6_driftVerdict_106 (fun u5 => ?_)
      refine g_aload_n C 109 1 dX6_driftVerdict_109 rfl ?_
      refine gfX_X6_trial C 110 iX6 (List.mem_cons_of_mem _ (List.mem_append_right _ wgL_2_3.1)) dX6_driftVerdict_110 ?_
      refine g_callVi (st := []) (As := []) C EX_ok EX_vm 113 6 0 (tX5_verdictHeld F u5) rfl gX6_driftVerdict_X5_verdictHeld rfl rfl rfl (by decide +kernel) ⟨Nat.le_of_ble_eq_true rfl, Nat.le_of_ble_eq_true rfl⟩ rfl rfl rfl (Nat.le_of_ble_eq_true rfl) dX6_driftVerdict_113 (fun r7 u6 => ?_)
      refine g_istore_n C 116 [(3, .int r7), (2, .int v1), (0, .ref (ad 0)), (1, .int p1)] dX6_driftVerdict_116 (by decide) rfl ?_
      refine g_aload_n C 117 2 dX6_driftVerdict_117 rfl ?_
      refine gfX_X6_driftLengths C 118 iX6 (List.mem_cons_of_mem _ (List.mem_append_right _ wgL_2_18.1)) dX6_driftVerdict_118 ?_
      refine g_iconst C 121 2 dX6_driftVerdict_121 rfl ?_
      refine g_iload_n C 122 1 dX6_driftVerdict_122 rfl ?_
      refine g_imul C 123 dX6_driftVerdict_123 ?_
      refine g_aload_n C 124 2 dX6_driftVerdict_124 rfl ?_
      refine gfX_X6_trial C 125 iX6 (List.mem_cons_of_mem _ (List.mem_append_right _ wgL_2_3.1)) dX6_driftVerdict_125 ?_
      refine gfX_X5_length C 128 iX5 (List.mem_cons_of_mem _ (List.mem_append_right _ wgL_25_3.1)) dX6_driftVerdict_128 ?_
      refine g_iconst C 131 0 dX6_driftVerdict_131 rfl ?_
      refine g_iald C 132 (10 + 56) 0 (wX_arr 56 (by decide)) rfl dX6_driftVerdict_132 ?_
      refine g_iast C 133 (10 + 53) 0 53 (wX_arr 53 (by decide)) (wX_aset 53 (by decide)) rfl dX6_driftVerdict_133 (fun u8 => ?_)
      refine g_aload_n C 134 2 dX6_driftVerdict_134 rfl ?_
      refine gfX_X6_driftLengths C 135 iX6 (List.mem_cons_of_mem _ (List.mem_append_right _ wgL_2_18.1)) dX6_driftVerdict_135 ?_
      refine g_iconst C 138 2 dX6_driftVerdict_138 rfl ?_
      refine g_iload_n C 139 1 dX6_driftVerdict_139 rfl ?_
      refine g_imul C 140 dX6_driftVerdict_140 ?_
      refine g_iconst C 141 1 dX6_driftVerdict_141 rfl ?_
      refine g_iadd C 142 dX6_driftVerdict_142 ?_
      refine g_aload_n C 143 2 dX6_driftVerdict_143 rfl ?_
      refine gfX_X6_trial C 144 iX6 (List.mem_cons_of_mem _ (List.mem_append_right _ wgL_2_3.1)) dX6_driftVerdict_144 ?_
      refine gfX_X5_length C 147 iX5 (List.mem_cons_of_mem _ (List.mem_append_right _ wgL_25_3.1)) dX6_driftVerdict_147 ?_
      refine g_iconst C 150 1 dX6_driftVerdict_150 rfl ?_
      refine g_iald C 151 (10 + 56) 0 (wX_arr 56 (by decide)) rfl dX6_driftVerdict_151 ?_
      refine g_iast C 152 (10 + 53) 0 53 (wX_arr 53 (by decide)) (wX_aset 53 (by decide)) rfl dX6_driftVerdict_152 (fun u9 => ?_)
      refine g_iload_n C 153 0 dX6_driftVerdict_153 rfl ?_
      exact g_iret C 154 dX6_driftVerdict_154
    · skip
      refine g_iconst C 20 0 dX6_driftVerdict_20 rfl ?_
      exact g_iret C 21 dX6_driftVerdict_21
def jX6_drift_120 (F : Nat) (p3 : Int32) (a6 : Int32) (u7 : St) : Option (Int32 × St) :=
  if p3 = 0 then some (a6, u7) else bd (pX0_sumOf F 0 53 u7) (fun (r9 : Int32) (u8 : St) => some (r9, u8))
def bX6_drift_69 (F : Nat) (p2 : Int32) (J120 : Int32 → St → Option (Int32 × St)) (self14 : Int32 → Int32 → Int32 → St → Option (Int32 × St)) (x10 : Int32) (x11 : Int32) (x12 : Int32) (u13 : St) : Option (Int32 × St) :=
  if p2 ≤ x12 then (J120 x10 u13) else vl ((x11 * 1103515245) + 12345) (fun v15 => bd (pX6_driftVerdict F ((ushr v15 16) &&& 32767) u13) (fun (r17 : Int32) (u16 : St) => jn (fun (a18 : Int32) (u19 : St) => vl (x10 + a18) (fun v20 => (self14 v20 v15 (x12 + 1) u19))) (fun (J111 : Int32 → St → Option (Int32 × St)) => if r17 = 1 then (J111 1 u16) else (J111 0 u16))))
def pX6_drift (F : Nat) (p1 : Int32) (p2 : Int32) (p3 : Int32) (u : St) : Option (Int32 × St) :=
  bd (pX6_isIn F (Int32.toInt64 p2) 1 60 u) (fun (r2 : Int32) (u1 : St) => if r2 = 0 then some ((-1), u1) else bd (pX6_isIn F (Int32.toInt64 p3) 0 1 u1) (fun (r4 : Int32) (u3 : St) => if r4 = 0 then some ((-1), u3) else if (u3.1 0) = 0 then some ((-2), u3) else if (u3.1 1) = 0 then some ((-2), u3) else bd (pX6_copyRow F 1 53 u3) (fun (_ : Unit) (u5 : St) => jn (jX6_drift_120 F p3) (fun (J120 : Int32 → St → Option (Int32 × St)) => (lq3 (bX6_drift_69 F p2 J120) F 0 p1 0 u5)))))
set_option maxRecDepth 100000 in
set_option maxHeartbeats 4000000 in
theorem tX6_drift {l : Launch} {D : va_G} {cI cZ : ClassId} {ad : Nat → Nat} {tBURNS tFLAME_BOUNDS : Nat} {tS : Option Nat} {adK adV : Nat → Nat} (F : Nat) (p1 : Int32) (p2 : Int32) (p3 : Int32) (u : St) : CtI l D [(cI, .int), (cZ, .boolean)] (wX ad cI cZ) (EX tBURNS tFLAME_BOUNDS tS adK adV) yX6_drift wsX6_drift ({ frames := 5, cells := 0, slots := 0, locals := 108 } : Room) [.ref (ad 0), .int p1, .int p2, .int p3] u (pX6_drift F p1 p2 p3 u) := by
  refine ctI_of (own := RX6) (cc := cX6_drift) (n := 7) (ret := (some .int)) (by decide) rfl rfl (Nat.le_of_ble_eq_true rfl) (lv := [(0, .ref (ad 0)), (1, .int p1), (2, .int p2), (3, .int p3)]) rfl (fun C => ?_)
  have iX0 : ∀ w ∈ wsX00, w ∈ wsX6_drift := fun w h => List.mem_cons_of_mem _ (List.mem_append_right _ (inlX0 w h))
  have iX6 : ∀ w ∈ wsX60, w ∈ wsX6_drift := fun w h => List.mem_cons_of_mem _ (List.mem_append_right _ (inlX6 w h))
  rw [pX6_drift]
  refine g_iload_n C 0 2 dX6_drift_0 rfl ?_
  refine g_i2l C 1 dX6_drift_1 ?_
  refine g_iconst C 2 1 dX6_drift_2 rfl ?_
  refine g_bipush C 3 60 dX6_drift_3 rfl ?_
  refine g_callSi (st := []) (As := [.long (Int32.toInt64 p2), .int 1, .int 60]) C EX_ok EX_vm 5 3 (tX6_isIn F (Int32.toInt64 p2) 1 60 u) rfl gX6_drift_X6_isIn rfl rfl rfl (by decide +kernel) ⟨Nat.le_of_ble_eq_true rfl, Nat.le_of_ble_eq_true rfl⟩ rfl (Nat.le_of_ble_eq_true rfl) dX6_drift_5 (fun r2 u1 => ?_)
  refine g_if_eq C 8 21 dX6_drift_8 (by decide) ?_ ?_
  · skip
    refine g_iconst C 21 (-1) dX6_drift_21 rfl ?_
    exact g_iret C 22 dX6_drift_22
  · skip
    refine g_iload_n C 11 3 dX6_drift_11 rfl ?_
    refine g_i2l C 12 dX6_drift_12 ?_
    refine g_iconst C 13 0 dX6_drift_13 rfl ?_
    refine g_iconst C 14 1 dX6_drift_14 rfl ?_
    refine g_callSi (st := []) (As := [.long (Int32.toInt64 p3), .int 0, .int 1]) C EX_ok EX_vm 15 3 (tX6_isIn F (Int32.toInt64 p3) 0 1 u1) rfl gX6_drift_X6_isIn rfl rfl rfl (by decide +kernel) ⟨Nat.le_of_ble_eq_true rfl, Nat.le_of_ble_eq_true rfl⟩ rfl (Nat.le_of_ble_eq_true rfl) dX6_drift_15 (fun r4 u3 => ?_)
    refine g_if_ne C 18 23 dX6_drift_18 (by decide) ?_ ?_
    · skip
      refine g_aload_n C 23 0 dX6_drift_23 rfl ?_
      refine gfX_X6_court C 24 iX6 (List.mem_cons_of_mem _ (List.mem_append_right _ wgL_1_15.1)) dX6_drift_24 ?_
      refine gfX_X0_cases 0 (by decide) C 27 iX0 (List.mem_cons_of_mem _ (List.mem_append_right _ wgL_18_5.1)) dX6_drift_27 ?_
      refine g_if_eq C 30 43 dX6_drift_30 (by decide) ?_ ?_
      · skip
        refine g_bipush C 43 (-2) dX6_drift_43 rfl ?_
        exact g_iret C 45 dX6_drift_45
      · skip
        refine g_aload_n C 33 0 dX6_drift_33 rfl ?_
        refine gfX_X6_court C 34 iX6 (List.mem_cons_of_mem _ (List.mem_append_right _ wgL_1_15.1)) dX6_drift_34 ?_
        refine gfX_X0_judges 0 (by decide) C 37 iX0 (List.mem_cons_of_mem _ (List.mem_append_right _ wgL_18_6.1)) dX6_drift_37 ?_
        refine g_if_ne C 40 46 dX6_drift_40 (by decide) ?_ ?_
        · skip
          refine g_aload_n C 46 0 dX6_drift_46 rfl ?_
          refine gfX_X6_court C 47 iX6 (List.mem_cons_of_mem _ (List.mem_append_right _ wgL_1_15.1)) dX6_drift_47 ?_
          refine gfX_X0_length 0 (by decide) C 50 iX0 (List.mem_cons_of_mem _ (List.mem_append_right _ wgL_18_10.1)) dX6_drift_50 ?_
          refine g_aload_n C 53 0 dX6_drift_53 rfl ?_
          refine gfX_X6_driftLengths C 54 iX6 (List.mem_cons_of_mem _ (List.mem_append_right _ wgL_2_18.1)) dX6_drift_54 ?_
          refine g_callSv (st := []) (As := [.ref (ad (10 + 1)), .ref (ad (10 + 53))]) C EX_ok EX_vm 57 2 (tX6_copyRow F 1 (by decide) 53 (by decide) u3) rfl gX6_drift_X6_copyRow rfl rfl rfl (by decide +kernel) ⟨Nat.le_of_ble_eq_true rfl, Nat.le_of_ble_eq_true rfl⟩ rfl (Nat.le_of_ble_eq_true rfl) dX6_drift_57 (fun u5 => ?_)
          refine g_iconst C 60 0 dX6_drift_60 rfl ?_
          refine g_istore C 61 [(4, .int 0), (0, .ref (ad 0)), (1, .int p1), (2, .int p2), (3, .int p3)] dX6_drift_61 (by decide) rfl ?_
          refine g_iload_n C 63 2 dX6_drift_63 rfl ?_
          refine g_istore C 64 [(5, .int p1), (4, .int 0), (0, .ref (ad 0)), (1, .int p1), (2, .int p2), (3, .int p3)] dX6_drift_64 (by decide) rfl ?_
          refine g_iconst C 66 0 dX6_drift_66 rfl ?_
          refine g_istore C 67 [(6, .int 0), (5, .int p1), (4, .int 0), (0, .ref (ad 0)), (1, .int p1), (2, .int p2), (3, .int p3)] dX6_drift_67 (by decide) rfl ?_
          refine g_jn1 120 (fun (a6 : Int32) => [(0, .ref (ad 0)), (3, .int p3), (4, .int a6)]) (fun (a6 : Int32) => []) (fun a6 u7 => ?_) (fun J120 hJ120 => ?_)
          · skip
            rw [jX6_drift_120]
            refine g_iload_n C 120 1 dX6_drift_120 rfl ?_
            refine g_if_ne C 121 129 dX6_drift_121 (by decide) ?_ ?_
            · skip
              refine g_aload_n C 129 0 dX6_drift_129 rfl ?_
              refine gfX_X6_court C 130 iX6 (List.mem_cons_of_mem _ (List.mem_append_right _ wgL_1_15.1)) dX6_drift_130 ?_
              refine g_aload_n C 133 0 dX6_drift_133 rfl ?_
              refine gfX_X6_driftLengths C 134 iX6 (List.mem_cons_of_mem _ (List.mem_append_right _ wgL_2_18.1)) dX6_drift_134 ?_
              refine g_callVi (st := []) (As := [.ref (ad (10 + 53))]) C EX_ok EX_vm 137 1 1 (tX0_sumOf F 0 (by decide) 53 (by decide) u7) rfl gX6_drift_X0_sumOf rfl rfl rfl (by decide +kernel) ⟨Nat.le_of_ble_eq_true rfl, Nat.le_of_ble_eq_true rfl⟩ (wX_X0 ad cI cZ _ 0 (by decide)) rfl rfl (Nat.le_of_ble_eq_true rfl) dX6_drift_137 (fun r9 u8 => ?_)
              exact g_iret C 140 dX6_drift_140
            · skip
              refine g_iload C 124 2 dX6_drift_124 rfl ?_
              refine g_goto C 126 140 dX6_drift_126 (by decide) ?_
              exact g_iret C 140 dX6_drift_140
          · skip
            refine g_sub _ [3, 5, 6, 2, 1, 0] rfl ?_
            refine g_lq3 (fun (x10 : Int32) (x11 : Int32) (x12 : Int32) => [(0, .ref (ad 0)), (2, .int p2), (3, .int p3), (4, .int x10), (5, .int x11), (6, .int x12)]) (fun self14 hself14 x10 x11 x12 u13 => ?_) F 0 p1 0 u5
            rw [bX6_drift_69]
            refine g_iload C 69 5 dX6_drift_69 rfl ?_
            refine g_iload_n C 71 1 dX6_drift_71 rfl ?_
            refine g_icmp_ge C 72 120 dX6_drift_72 (by decide) ?_ ?_
            · skip
              exact g_sub _ [0, 2, 3] rfl (hJ120 x10 u13)
            · skip
              refine g_iload C 75 4 dX6_drift_75 rfl ?_
              refine g_ldcw C 77 1103515245 (by decide +kernel) dX6_drift_77 ?_
              refine g_imul C 80 dX6_drift_80 ?_
              refine g_sipush C 81 12345 dX6_drift_81 rfl ?_
              refine g_iadd C 84 dX6_drift_84 ?_
              refine g_istoreV C 85 (fun v15 => [(5, .int v15), (0, .ref (ad 0)), (2, .int p2), (3, .int p3), (4, .int x10), (6, .int x12)]) dX6_drift_85 (by decide) (fun _ => rfl) (fun v15 => ?_)
              refine g_iload C 87 4 dX6_drift_87 rfl ?_
              refine g_aload_n C 89 1 dX6_drift_89 rfl ?_
              refine g_iload C 90 0 dX6_drift_90 rfl ?_
              refine g_bipush C 92 16 dX6_drift_92 rfl ?_
              refine g_iushr C 94 dX6_drift_94 ?_
              refine g_sipush C 95 32767 dX6_drift_95 rfl ?_
              refine g_iand C 98 dX6_drift_98 ?_
              refine g_callVi (st := [.int x10]) (As := [.int ((ushr v15 16) &&& 32767)]) C EX_ok EX_vm 99 0 1 (tX6_driftVerdict F ((ushr v15 16) &&& 32767) u13) rfl gX6_drift_X6_driftVerdict rfl rfl rfl (by decide +kernel) ⟨Nat.le_of_ble_eq_true rfl, Nat.le_of_ble_eq_true rfl⟩ rfl rfl rfl (Nat.le_of_ble_eq_true rfl) dX6_drift_99 (fun r17 u16 => ?_)
              refine g_iconst C 102 1 dX6_drift_102 rfl ?_
              refine g_jn1 111 (fun (a18 : Int32) => [(0, .ref (ad 0)), (2, .int p2), (3, .int p3), (5, .int v15), (6, .int x12)]) (fun (a18 : Int32) => [.int a18, .int x10]) (fun a18 u19 => ?_) (fun J111 hJ111 => ?_)
              · skip
                refine g_iadd C 111 dX6_drift_111 ?_
                refine g_istoreV C 112 (fun v20 => [(4, .int v20), (0, .ref (ad 0)), (2, .int p2), (3, .int p3), (5, .int v15), (6, .int x12)]) dX6_drift_112 (by decide) (fun _ => rfl) (fun v20 => ?_)
                refine g_iinc C 114 5 [(6, .int (x12 + 1)), (4, .int v20), (0, .ref (ad 0)), (2, .int p2), (3, .int p3), (5, .int v15)] dX6_drift_114 rfl rfl (by decide) rfl ?_
                refine g_goto C 117 69 dX6_drift_117 (by decide) ?_
                exact g_sub _ [2, 3, 4, 1, 5, 0] rfl (hself14 v20 v15 (x12 + 1) u19)
              · skip
                refine g_icmp_ne C 103 110 dX6_drift_103 (by decide) ?_ ?_
                · skip
                  refine g_iconst C 110 0 dX6_drift_110 rfl ?_
                  exact g_sub _ [1, 2, 3, 0, 5] rfl (hJ111 0 u16)
                · skip
                  refine g_iconst C 106 1 dX6_drift_106 rfl ?_
                  refine g_goto C 107 111 dX6_drift_107 (by decide) ?_
                  exact g_sub _ [1, 2, 3, 0, 5] rfl (hJ111 1 u16)
        · skip
          refine g_bipush C 43 (-2) dX6_drift_43 rfl ?_
          exact g_iret C 45 dX6_drift_45
    · skip
      refine g_iconst C 21 (-1) dX6_drift_21 rfl ?_
      exact g_iret C 22 dX6_drift_22
def pX6_imageOf (F : Nat) (p1 : Int32) (u : St) : Option (Nat × St) :=
  if p1 = 0 then some (1, u) else some (2, u)
set_option maxRecDepth 100000 in
set_option maxHeartbeats 4000000 in
theorem tX6_imageOf {l : Launch} {D : va_G} {cI cZ : ClassId} {ad : Nat → Nat} {tBURNS tFLAME_BOUNDS : Nat} {tS : Option Nat} {adK adV : Nat → Nat} (F : Nat) (p1 : Int32) (u : St) : CtR l D [(cI, .int), (cZ, .boolean)] (wX ad cI cZ) (EX tBURNS tFLAME_BOUNDS tS adK adV) (fun r => ad (1 + r)) yX6_imageOf wsX6_imageOf ({ frames := 0, cells := 0, slots := 0, locals := 0 } : Room) [.ref (ad 0), .int p1] u (pX6_imageOf F p1 u) := by
  refine ctR_of (own := RX6) (cc := cX6_imageOf) (n := 2) (ret := (some (.object "SnuffCourt$Court"))) (by decide) rfl rfl (Nat.le_of_ble_eq_true rfl) (lv := [(0, .ref (ad 0)), (1, .int p1)]) rfl (fun C => ?_)
  have iX6 : ∀ w ∈ wsX60, w ∈ wsX6_imageOf := fun w h => List.mem_cons_of_mem _ (List.mem_append_right _ (inlX6 w h))
  rw [pX6_imageOf]
  refine g_iload_n C 0 1 dX6_imageOf_0 rfl ?_
  refine g_if_ne C 1 11 dX6_imageOf_1 (by decide) ?_ ?_
  · skip
    refine g_aload_n C 11 0 dX6_imageOf_11 rfl ?_
    refine gfX_X6_secondImage C 12 iX6 (List.mem_cons_of_mem _ (List.mem_append_right _ wgL_1_17.1)) dX6_imageOf_12 ?_
    exact g_rret (ad := fun r => ad (1 + r)) C 15 2 dX6_imageOf_15
  · skip
    refine g_aload_n C 4 0 dX6_imageOf_4 rfl ?_
    refine gfX_X6_firstImage C 5 iX6 (List.mem_cons_of_mem _ (List.mem_append_right _ wgL_1_16.1)) dX6_imageOf_5 ?_
    refine g_goto C 8 15 dX6_imageOf_8 (by decide) ?_
    exact g_rret (ad := fun r => ad (1 + r)) C 15 1 dX6_imageOf_15
end
section
def pX6_keep (F : Nat) (p1 : Int32) (u : St) : Option (Int32 × St) :=
  bd (pX6_isIn F (Int32.toInt64 p1) 0 1 u) (fun (r2 : Int32) (u1 : St) => if r2 = 0 then some ((-1), u1) else gd (inb p1 2) (jn (fun (a3 : Int32) (u4 : St) => bd (pX6_imageOf F p1 u4) (fun (r6 : Nat) (u5 : St) => gd (decide (r6 < 4)) (bd (pX0_becomes F r6 0 u5) (fun (_ : Unit) (u7 : St) => gd (inb p1 2) (vl (stz u7 66 p1 1) (fun (u8 : St) => some (a3, u8))))))) (fun (J26 : Int32 → St → Option (Int32 × St)) => if (u1.2 66 (Int32.toNatClampNeg p1)) = 0 then (J26 0 u1) else (J26 1 u1))))
set_option maxRecDepth 100000 in
set_option maxHeartbeats 4000000 in
theorem tX6_keep {l : Launch} {D : va_G} {cI cZ : ClassId} {ad : Nat → Nat} {tBURNS tFLAME_BOUNDS : Nat} {tS : Option Nat} {adK adV : Nat → Nat} (F : Nat) (p1 : Int32) (u : St) : CtI l D [(cI, .int), (cZ, .boolean)] (wX ad cI cZ) (EX tBURNS tFLAME_BOUNDS tS adK adV) yX6_keep wsX6_keep ({ frames := 3, cells := 0, slots := 0, locals := 60 } : Room) [.ref (ad 0), .int p1] u (pX6_keep F p1 u) := by
  refine ctI_of (own := RX6) (cc := cX6_keep) (n := 3) (ret := (some .int)) (by decide) rfl rfl (Nat.le_of_ble_eq_true rfl) (lv := [(0, .ref (ad 0)), (1, .int p1)]) rfl (fun C => ?_)
  have iX6 : ∀ w ∈ wsX60, w ∈ wsX6_keep := fun w h => List.mem_cons_of_mem _ (List.mem_append_right _ (inlX6 w h))
  rw [pX6_keep]
  refine g_iload_n C 0 1 dX6_keep_0 rfl ?_
  refine g_i2l C 1 dX6_keep_1 ?_
  refine g_iconst C 2 0 dX6_keep_2 rfl ?_
  refine g_iconst C 3 1 dX6_keep_3 rfl ?_
  refine g_callSi (st := []) (As := [.long (Int32.toInt64 p1), .int 0, .int 1]) C EX_ok EX_vm 4 3 (tX6_isIn F (Int32.toInt64 p1) 0 1 u) rfl gX6_keep_X6_isIn rfl rfl rfl (by decide +kernel) ⟨Nat.le_of_ble_eq_true rfl, Nat.le_of_ble_eq_true rfl⟩ rfl (Nat.le_of_ble_eq_true rfl) dX6_keep_4 (fun r2 u1 => ?_)
  refine g_if_ne C 7 12 dX6_keep_7 (by decide) ?_ ?_
  · skip
    refine g_aload_n C 12 0 dX6_keep_12 rfl ?_
    refine gfX_X6_kept C 13 iX6 (List.mem_cons_of_mem _ (List.mem_append_right _ wgL_1_19.1)) dX6_keep_13 ?_
    refine g_iload_n C 16 1 dX6_keep_16 rfl ?_
    refine g_zald C 17 (10 + 66) 1 (wX_arrz 66 (by decide) (by decide)) rfl dX6_keep_17 ?_
    refine g_jn1 26 (fun (a3 : Int32) => [(0, .ref (ad 0)), (1, .int p1)]) (fun (a3 : Int32) => [.int a3]) (fun a3 u4 => ?_) (fun J26 hJ26 => ?_)
    · skip
      refine g_istore_n C 26 [(2, .int a3), (0, .ref (ad 0)), (1, .int p1)] dX6_keep_26 (by decide) rfl ?_
      refine g_aload_n C 27 1 dX6_keep_27 rfl ?_
      refine g_iload_n C 28 2 dX6_keep_28 rfl ?_
      refine g_callVr (fun r => ad (1 + r)) (st := []) (As := [.int p1]) C EX_ok EX_vm 29 0 1 4 (tX6_imageOf F p1 u4) rfl gX6_keep_X6_imageOf rfl rfl rfl (by decide +kernel) ⟨Nat.le_of_ble_eq_true rfl, Nat.le_of_ble_eq_true rfl⟩ rfl rfl rfl (Nat.le_of_ble_eq_true rfl) dX6_keep_29 (fun r6 u5 hr6 => ?_)
      refine g_aload_n C 32 1 dX6_keep_32 rfl ?_
      refine gfX_X6_court C 33 iX6 (List.mem_cons_of_mem _ (List.mem_append_right _ wgL_1_15.1)) dX6_keep_33 ?_
      refine g_callVv (st := []) (As := [.ref (ad 1)]) C EX_ok EX_vm 36 (1 + r6) 1 (tX0_becomes F r6 hr6 0 (by decide) u5) rfl gX6_keep_X0_becomes rfl rfl rfl (by decide +kernel) ⟨Nat.le_of_ble_eq_true rfl, Nat.le_of_ble_eq_true rfl⟩ (wX_X0 ad cI cZ _ r6 hr6) rfl rfl (Nat.le_of_ble_eq_true rfl) dX6_keep_36 (fun u7 => ?_)
      refine g_aload_n C 39 1 dX6_keep_39 rfl ?_
      refine gfX_X6_kept C 40 iX6 (List.mem_cons_of_mem _ (List.mem_append_right _ wgL_1_19.1)) dX6_keep_40 ?_
      refine g_iload_n C 43 2 dX6_keep_43 rfl ?_
      refine g_iconst C 44 1 dX6_keep_44 rfl ?_
      refine g_zast C 45 (10 + 66) 1 66 (wX_arrz 66 (by decide) (by decide)) (wX_asetz 66 (by decide) (by decide)) rfl dX6_keep_45 (fun u8 => ?_)
      refine g_iload_n C 46 0 dX6_keep_46 rfl ?_
      exact g_iret C 47 dX6_keep_47
    · skip
      refine g_if_eq C 18 25 dX6_keep_18 (by decide) ?_ ?_
      · skip
        refine g_iconst C 25 0 dX6_keep_25 rfl ?_
        exact g_sub _ [0, 1] rfl (hJ26 0 u1)
      · skip
        refine g_iconst C 21 1 dX6_keep_21 rfl ?_
        refine g_goto C 22 26 dX6_keep_22 (by decide) ?_
        exact g_sub _ [0, 1] rfl (hJ26 1 u1)
  · skip
    refine g_iconst C 10 (-1) dX6_keep_10 rfl ?_
    exact g_iret C 11 dX6_keep_11
def pX6_back (F : Nat) (p1 : Int32) (u : St) : Option (Int32 × St) :=
  bd (pX6_isIn F (Int32.toInt64 p1) 0 1 u) (fun (r2 : Int32) (u1 : St) => if r2 = 0 then some ((-1), u1) else gd (inb p1 2) (if (u1.2 66 (Int32.toNatClampNeg p1)) = 0 then some ((-2), u1) else bd (pX6_imageOf F p1 u1) (fun (r4 : Nat) (u3 : St) => gd (decide (r4 < 4)) (bd (pX0_becomes F 0 r4 u3) (fun (_ : Unit) (u5 : St) => bd (pX0_sumOf F 0 1 u5) (fun (r7 : Int32) (u6 : St) => some (r7, u6)))))))
set_option maxRecDepth 100000 in
set_option maxHeartbeats 4000000 in
theorem tX6_back {l : Launch} {D : va_G} {cI cZ : ClassId} {ad : Nat → Nat} {tBURNS tFLAME_BOUNDS : Nat} {tS : Option Nat} {adK adV : Nat → Nat} (F : Nat) (p1 : Int32) (u : St) : CtI l D [(cI, .int), (cZ, .boolean)] (wX ad cI cZ) (EX tBURNS tFLAME_BOUNDS tS adK adV) yX6_back wsX6_back ({ frames := 3, cells := 0, slots := 0, locals := 60 } : Room) [.ref (ad 0), .int p1] u (pX6_back F p1 u) := by
  refine ctI_of (own := RX6) (cc := cX6_back) (n := 2) (ret := (some .int)) (by decide) rfl rfl (Nat.le_of_ble_eq_true rfl) (lv := [(0, .ref (ad 0)), (1, .int p1)]) rfl (fun C => ?_)
  have iX0 : ∀ w ∈ wsX00, w ∈ wsX6_back := fun w h => List.mem_cons_of_mem _ (List.mem_append_right _ (inlX0 w h))
  have iX6 : ∀ w ∈ wsX60, w ∈ wsX6_back := fun w h => List.mem_cons_of_mem _ (List.mem_append_right _ (inlX6 w h))
  rw [pX6_back]
  refine g_iload_n C 0 1 dX6_back_0 rfl ?_
  refine g_i2l C 1 dX6_back_1 ?_
  refine g_iconst C 2 0 dX6_back_2 rfl ?_
  refine g_iconst C 3 1 dX6_back_3 rfl ?_
  refine g_callSi (st := []) (As := [.long (Int32.toInt64 p1), .int 0, .int 1]) C EX_ok EX_vm 4 3 (tX6_isIn F (Int32.toInt64 p1) 0 1 u) rfl gX6_back_X6_isIn rfl rfl rfl (by decide +kernel) ⟨Nat.le_of_ble_eq_true rfl, Nat.le_of_ble_eq_true rfl⟩ rfl (Nat.le_of_ble_eq_true rfl) dX6_back_4 (fun r2 u1 => ?_)
  refine g_if_ne C 7 12 dX6_back_7 (by decide) ?_ ?_
  · skip
    refine g_aload_n C 12 0 dX6_back_12 rfl ?_
    refine gfX_X6_kept C 13 iX6 (List.mem_cons_of_mem _ (List.mem_append_right _ wgL_1_19.1)) dX6_back_13 ?_
    refine g_iload_n C 16 1 dX6_back_16 rfl ?_
    refine g_zald C 17 (10 + 66) 1 (wX_arrz 66 (by decide) (by decide)) rfl dX6_back_17 ?_
    refine g_if_ne C 18 24 dX6_back_18 (by decide) ?_ ?_
    · skip
      refine g_aload_n C 24 0 dX6_back_24 rfl ?_
      refine gfX_X6_court C 25 iX6 (List.mem_cons_of_mem _ (List.mem_append_right _ wgL_1_15.1)) dX6_back_25 ?_
      refine g_aload_n C 28 0 dX6_back_28 rfl ?_
      refine g_iload_n C 29 1 dX6_back_29 rfl ?_
      refine g_callVr (fun r => ad (1 + r)) (st := [.ref (ad 1)]) (As := [.int p1]) C EX_ok EX_vm 30 0 1 4 (tX6_imageOf F p1 u1) rfl gX6_back_X6_imageOf rfl rfl rfl (by decide +kernel) ⟨Nat.le_of_ble_eq_true rfl, Nat.le_of_ble_eq_true rfl⟩ rfl rfl rfl (Nat.le_of_ble_eq_true rfl) dX6_back_30 (fun r4 u3 hr4 => ?_)
      refine g_callVv (st := []) (As := [.ref (ad (1 + r4))]) C EX_ok EX_vm 33 1 1 (tX0_becomes F 0 (by decide) r4 hr4 u3) rfl gX6_back_X0_becomes rfl rfl rfl (by decide +kernel) ⟨Nat.le_of_ble_eq_true rfl, Nat.le_of_ble_eq_true rfl⟩ (wX_X0 ad cI cZ _ 0 (by decide)) rfl rfl (Nat.le_of_ble_eq_true rfl) dX6_back_33 (fun u5 => ?_)
      refine g_aload_n C 36 0 dX6_back_36 rfl ?_
      refine gfX_X6_court C 37 iX6 (List.mem_cons_of_mem _ (List.mem_append_right _ wgL_1_15.1)) dX6_back_37 ?_
      refine g_aload_n C 40 0 dX6_back_40 rfl ?_
      refine gfX_X6_court C 41 iX6 (List.mem_cons_of_mem _ (List.mem_append_right _ wgL_1_15.1)) dX6_back_41 ?_
      refine gfX_X0_length 0 (by decide) C 44 iX0 (List.mem_cons_of_mem _ (List.mem_append_right _ wgL_18_10.1)) dX6_back_44 ?_
      refine g_callVi (st := []) (As := [.ref (ad (10 + 1))]) C EX_ok EX_vm 47 1 1 (tX0_sumOf F 0 (by decide) 1 (by decide) u5) rfl gX6_back_X0_sumOf rfl rfl rfl (by decide +kernel) ⟨Nat.le_of_ble_eq_true rfl, Nat.le_of_ble_eq_true rfl⟩ (wX_X0 ad cI cZ _ 0 (by decide)) rfl rfl (Nat.le_of_ble_eq_true rfl) dX6_back_47 (fun r7 u6 => ?_)
      exact g_iret C 50 dX6_back_50
    · skip
      refine g_bipush C 21 (-2) dX6_back_21 rfl ?_
      exact g_iret C 23 dX6_back_23
  · skip
    refine g_iconst C 10 (-1) dX6_back_10 rfl ?_
    exact g_iret C 11 dX6_back_11
def pX6_isSheet (F : Nat) (p1 : Int32) (p2 : Int32) (u : St) : Option (Int32 × St) :=
  bd (pX6_isIn F (Int32.toInt64 p1) 0 3 u) (fun (r2 : Int32) (u1 : St) => if r2 = 0 then some (0, u1) else bd (pX6_isIn F (Int32.toInt64 p2) 0 2 u1) (fun (r4 : Int32) (u3 : St) => if r4 = 0 then some (0, u3) else some (1, u3)))
set_option maxRecDepth 100000 in
set_option maxHeartbeats 4000000 in
theorem tX6_isSheet {l : Launch} {D : va_G} {cI cZ : ClassId} {ad : Nat → Nat} {tBURNS tFLAME_BOUNDS : Nat} {tS : Option Nat} {adK adV : Nat → Nat} (F : Nat) (p1 : Int32) (p2 : Int32) (u : St) : CtI l D [(cI, .int), (cZ, .boolean)] (wX ad cI cZ) (EX tBURNS tFLAME_BOUNDS tS adK adV) yX6_isSheet wsX6_isSheet ({ frames := 1, cells := 0, slots := 0, locals := 23 } : Room) [.int p1, .int p2] u (pX6_isSheet F p1 p2 u) := by
  refine ctI_of (own := RX6) (cc := cX6_isSheet) (n := 2) (ret := (some .boolean)) (by decide) rfl rfl (Nat.le_of_ble_eq_true rfl) (lv := [(0, .int p1), (1, .int p2)]) rfl (fun C => ?_)
  rw [pX6_isSheet]
  refine g_iload_n C 0 0 dX6_isSheet_0 rfl ?_
  refine g_i2l C 1 dX6_isSheet_1 ?_
  refine g_iconst C 2 0 dX6_isSheet_2 rfl ?_
  refine g_iconst C 3 3 dX6_isSheet_3 rfl ?_
  refine g_callSi (st := []) (As := [.long (Int32.toInt64 p1), .int 0, .int 3]) C EX_ok EX_vm 4 3 (tX6_isIn F (Int32.toInt64 p1) 0 3 u) rfl gX6_isSheet_X6_isIn rfl rfl rfl (by decide +kernel) ⟨Nat.le_of_ble_eq_true rfl, Nat.le_of_ble_eq_true rfl⟩ rfl (Nat.le_of_ble_eq_true rfl) dX6_isSheet_4 (fun r2 u1 => ?_)
  refine g_if_eq C 7 24 dX6_isSheet_7 (by decide) ?_ ?_
  · skip
    refine g_iconst C 24 0 dX6_isSheet_24 rfl ?_
    exact g_nret C 25 rfl dX6_isSheet_25
  · skip
    refine g_iload_n C 10 1 dX6_isSheet_10 rfl ?_
    refine g_i2l C 11 dX6_isSheet_11 ?_
    refine g_iconst C 12 0 dX6_isSheet_12 rfl ?_
    refine g_iconst C 13 2 dX6_isSheet_13 rfl ?_
    refine g_callSi (st := []) (As := [.long (Int32.toInt64 p2), .int 0, .int 2]) C EX_ok EX_vm 14 3 (tX6_isIn F (Int32.toInt64 p2) 0 2 u1) rfl gX6_isSheet_X6_isIn rfl rfl rfl (by decide +kernel) ⟨Nat.le_of_ble_eq_true rfl, Nat.le_of_ble_eq_true rfl⟩ rfl (Nat.le_of_ble_eq_true rfl) dX6_isSheet_14 (fun r4 u3 => ?_)
    refine g_if_eq C 17 24 dX6_isSheet_17 (by decide) ?_ ?_
    · skip
      refine g_iconst C 24 0 dX6_isSheet_24 rfl ?_
      exact g_nret C 25 rfl dX6_isSheet_25
    · skip
      refine g_iconst C 20 1 dX6_isSheet_20 rfl ?_
      refine g_goto C 21 25 dX6_isSheet_21 (by decide) ?_
      exact g_nret C 25 rfl dX6_isSheet_25
def bX4_renew_17 (F : Nat) (p1 : Int32) (p3 : Int32) (self5 : Int32 → St → Option (Unit × St)) (x3 : Int32) (u4 : St) : Option (Unit × St) :=
  if p3 ≤ x3 then some ((), u4) else gd (inb ((p1 * 40) + x3) 160) (vl (sta u4 63 ((p1 * 40) + x3) 0) (fun (u6 : St) => (self5 (x3 + 1) u6)))
def pX4_renew (F : Nat) (p1 : Int32) (p2 : Int32) (p3 : Int32) (u : St) : Option (Unit × St) :=
  gd (inb p1 4) (vl (sta u 64 p1 p2) (fun (u1 : St) => gd (inb p1 4) (vl (sta u1 65 p1 p3) (fun (u2 : St) => (lq1 (bX4_renew_17 F p1 p3) F 0 u2)))))
set_option maxRecDepth 100000 in
set_option maxHeartbeats 4000000 in
theorem tX4_renew {l : Launch} {D : va_G} {cI cZ : ClassId} {ad : Nat → Nat} {tBURNS tFLAME_BOUNDS : Nat} {tS : Option Nat} {adK adV : Nat → Nat} (F : Nat) (p1 : Int32) (p2 : Int32) (p3 : Int32) (u : St) : CtV l D [(cI, .int), (cZ, .boolean)] (wX ad cI cZ) (EX tBURNS tFLAME_BOUNDS tS adK adV) yX4_renew wsX4_renew ({ frames := 0, cells := 0, slots := 0, locals := 0 } : Room) [.ref (ad 9), .int p1, .int p2, .int p3] u (pX4_renew F p1 p2 p3 u) := by
  refine ctV_of (own := RX4) (cc := cX4_renew) (n := 5) (ret := none) (by decide) rfl rfl (Nat.le_of_ble_eq_true rfl) (lv := [(0, .ref (ad 9)), (1, .int p1), (2, .int p2), (3, .int p3)]) rfl (fun C => ?_)
  have iX4 : ∀ w ∈ wsX40, w ∈ wsX4_renew := fun w h => List.mem_cons_of_mem _ (List.mem_append_right _ (inlX4 w h))
  rw [pX4_renew]
  refine g_aload_n C 0 0 dX4_renew_0 rfl ?_
  refine gfX_X4_lane C 1 iX4 (List.mem_cons_of_mem _ (List.mem_append_right _ wgL_5_8.1)) dX4_renew_1 ?_
  refine g_iload_n C 4 1 dX4_renew_4 rfl ?_
  refine g_iload_n C 5 2 dX4_renew_5 rfl ?_
  refine g_iast C 6 (10 + 64) 0 64 (wX_arr 64 (by decide)) (wX_aset 64 (by decide)) rfl dX4_renew_6 (fun u1 => ?_)
  refine g_aload_n C 7 0 dX4_renew_7 rfl ?_
  refine gfX_X4_size C 8 iX4 (List.mem_cons_of_mem _ (List.mem_append_right _ wgL_5_9.1)) dX4_renew_8 ?_
  refine g_iload_n C 11 1 dX4_renew_11 rfl ?_
  refine g_iload_n C 12 3 dX4_renew_12 rfl ?_
  refine g_iast C 13 (10 + 65) 0 65 (wX_arr 65 (by decide)) (wX_aset 65 (by decide)) rfl dX4_renew_13 (fun u2 => ?_)
  refine g_iconst C 14 0 dX4_renew_14 rfl ?_
  refine g_istore C 15 [(4, .int 0), (0, .ref (ad 9)), (1, .int p1), (2, .int p2), (3, .int p3)] dX4_renew_15 (by decide) rfl ?_
  refine g_sub _ [1, 2, 4, 0] rfl ?_
  refine g_lq1 (fun (x3 : Int32) => [(0, .ref (ad 9)), (1, .int p1), (3, .int p3), (4, .int x3)]) (fun self5 hself5 x3 u4 => ?_) F 0 u2
  rw [bX4_renew_17]
  refine g_iload C 17 3 dX4_renew_17 rfl ?_
  refine g_iload_n C 19 2 dX4_renew_19 rfl ?_
  refine g_icmp_ge C 20 42 dX4_renew_20 (by decide) ?_ ?_
  · skip
    exact g_vret C 42 dX4_renew_42
  · skip
    refine g_aload_n C 23 0 dX4_renew_23 rfl ?_
    refine gfX_X4_cells C 24 iX4 (List.mem_cons_of_mem _ (List.mem_append_right _ wgL_5_7.1)) dX4_renew_24 ?_
    refine g_iload_n C 27 1 dX4_renew_27 rfl ?_
    refine g_bipush C 28 40 dX4_renew_28 rfl ?_
    refine g_imul C 30 dX4_renew_30 ?_
    refine g_iload C 31 3 dX4_renew_31 rfl ?_
    refine g_iadd C 33 dX4_renew_33 ?_
    refine g_iconst C 34 0 dX4_renew_34 rfl ?_
    refine g_iast C 35 (10 + 63) 0 63 (wX_arr 63 (by decide)) (wX_aset 63 (by decide)) rfl dX4_renew_35 (fun u6 => ?_)
    refine g_iinc C 36 3 [(4, .int (x3 + 1)), (0, .ref (ad 9)), (1, .int p1), (3, .int p3)] dX4_renew_36 rfl rfl (by decide) rfl ?_
    refine g_goto C 39 17 dX4_renew_39 (by decide) ?_
    exact g_sub _ [1, 2, 3, 0] rfl (hself5 (x3 + 1) u6)
def pX6_sheet (F : Nat) (p1 : Int32) (p2 : Int32) (p3 : Int32) (u : St) : Option (Int32 × St) :=
  bd (pX6_isSheet F p1 p2 u) (fun (r2 : Int32) (u1 : St) => if r2 = 0 then some ((-1), u1) else if p3 ≤ 40 then if 0 ≤ p3 then bd (pX4_renew F p1 p2 p3 u1) (fun (_ : Unit) (u3 : St) => some (1, u3)) else some ((-14), u1) else some ((-1), u1))
set_option maxRecDepth 100000 in
set_option maxHeartbeats 4000000 in
theorem tX6_sheet {l : Launch} {D : va_G} {cI cZ : ClassId} {ad : Nat → Nat} {tBURNS tFLAME_BOUNDS : Nat} {tS : Option Nat} {adK adV : Nat → Nat} (F : Nat) (p1 : Int32) (p2 : Int32) (p3 : Int32) (u : St) : CtI l D [(cI, .int), (cZ, .boolean)] (wX ad cI cZ) (EX tBURNS tFLAME_BOUNDS tS adK adV) yX6_sheet wsX6_sheet ({ frames := 2, cells := 0, slots := 0, locals := 44 } : Room) [.ref (ad 0), .int p1, .int p2, .int p3] u (pX6_sheet F p1 p2 p3 u) := by
  refine ctI_of (own := RX6) (cc := cX6_sheet) (n := 4) (ret := (some .int)) (by decide) rfl rfl (Nat.le_of_ble_eq_true rfl) (lv := [(0, .ref (ad 0)), (1, .int p1), (2, .int p2), (3, .int p3)]) rfl (fun C => ?_)
  have iX6 : ∀ w ∈ wsX60, w ∈ wsX6_sheet := fun w h => List.mem_cons_of_mem _ (List.mem_append_right _ (inlX6 w h))
  rw [pX6_sheet]
  refine g_iload_n C 0 1 dX6_sheet_0 rfl ?_
  refine g_iload_n C 1 2 dX6_sheet_1 rfl ?_
  refine g_callSi (st := []) (As := [.int p1, .int p2]) C EX_ok EX_vm 2 2 (tX6_isSheet F p1 p2 u) rfl gX6_sheet_X6_isSheet rfl rfl rfl (by decide +kernel) ⟨Nat.le_of_ble_eq_true rfl, Nat.le_of_ble_eq_true rfl⟩ rfl (Nat.le_of_ble_eq_true rfl) dX6_sheet_2 (fun r2 u1 => ?_)
  refine g_if_eq C 5 14 dX6_sheet_5 (by decide) ?_ ?_
  · skip
    refine g_iconst C 14 (-1) dX6_sheet_14 rfl ?_
    exact g_iret C 15 dX6_sheet_15
  · skip
    refine g_iload_n C 8 3 dX6_sheet_8 rfl ?_
    refine g_bipush C 9 40 dX6_sheet_9 rfl ?_
    refine g_icmp_le C 11 16 dX6_sheet_11 (by decide) ?_ ?_
    · skip
      refine g_iload_n C 16 3 dX6_sheet_16 rfl ?_
      refine g_if_ge C 17 23 dX6_sheet_17 (by decide) ?_ ?_
      · skip
        refine g_aload_n C 23 0 dX6_sheet_23 rfl ?_
        refine gfX_X6_sheets C 24 iX6 (List.mem_cons_of_mem _ (List.mem_append_right _ wgL_2_15.1)) dX6_sheet_24 ?_
        refine g_iload_n C 27 1 dX6_sheet_27 rfl ?_
        refine g_iload_n C 28 2 dX6_sheet_28 rfl ?_
        refine g_iload_n C 29 3 dX6_sheet_29 rfl ?_
        refine g_callVv (st := []) (As := [.int p1, .int p2, .int p3]) C EX_ok EX_vm 30 9 3 (tX4_renew F p1 p2 p3 u1) rfl gX6_sheet_X4_renew rfl rfl rfl (by decide +kernel) ⟨Nat.le_of_ble_eq_true rfl, Nat.le_of_ble_eq_true rfl⟩ rfl rfl rfl (Nat.le_of_ble_eq_true rfl) dX6_sheet_30 (fun u3 => ?_)
        refine g_iconst C 33 1 dX6_sheet_33 rfl ?_
        exact g_iret C 34 dX6_sheet_34
      · skip
        refine g_bipush C 20 (-14) dX6_sheet_20 rfl ?_
        exact g_iret C 22 dX6_sheet_22
    · skip
      refine g_iconst C 14 (-1) dX6_sheet_14 rfl ?_
      exact g_iret C 15 dX6_sheet_15
def pX4_isNothing (F : Nat) (p1 : Int32) (u : St) : Option (Int32 × St) :=
  gd (inb p1 4) (if (u.2 65 (Int32.toNatClampNeg p1)) = (-4) then some (1, u) else some (0, u))
set_option maxRecDepth 100000 in
set_option maxHeartbeats 4000000 in
theorem tX4_isNothing {l : Launch} {D : va_G} {cI cZ : ClassId} {ad : Nat → Nat} {tBURNS tFLAME_BOUNDS : Nat} {tS : Option Nat} {adK adV : Nat → Nat} (F : Nat) (p1 : Int32) (u : St) : CtI l D [(cI, .int), (cZ, .boolean)] (wX ad cI cZ) (EX tBURNS tFLAME_BOUNDS tS adK adV) yX4_isNothing wsX4_isNothing ({ frames := 0, cells := 0, slots := 0, locals := 0 } : Room) [.ref (ad 9), .int p1] u (pX4_isNothing F p1 u) := by
  refine ctI_of (own := RX4) (cc := cX4_isNothing) (n := 2) (ret := (some .boolean)) (by decide) rfl rfl (Nat.le_of_ble_eq_true rfl) (lv := [(0, .ref (ad 9)), (1, .int p1)]) rfl (fun C => ?_)
  have iX4 : ∀ w ∈ wsX40, w ∈ wsX4_isNothing := fun w h => List.mem_cons_of_mem _ (List.mem_append_right _ (inlX4 w h))
  rw [pX4_isNothing]
  refine g_aload_n C 0 0 dX4_isNothing_0 rfl ?_
  refine gfX_X4_size C 1 iX4 (List.mem_cons_of_mem _ (List.mem_append_right _ wgL_5_9.1)) dX4_isNothing_1 ?_
  refine g_iload_n C 4 1 dX4_isNothing_4 rfl ?_
  refine g_iald C 5 (10 + 65) 0 (wX_arr 65 (by decide)) rfl dX4_isNothing_5 ?_
  refine g_bipush C 6 (-4) dX4_isNothing_6 rfl ?_
  refine g_icmp_ne C 8 15 dX4_isNothing_8 (by decide) ?_ ?_
  · skip
    refine g_iconst C 15 0 dX4_isNothing_15 rfl ?_
    exact g_nret C 16 rfl dX4_isNothing_16
  · skip
    refine g_iconst C 11 1 dX4_isNothing_11 rfl ?_
    refine g_goto C 12 16 dX4_isNothing_12 (by decide) ?_
    exact g_nret C 16 rfl dX4_isNothing_16
def pX4_hasCell (F : Nat) (p1 : Int32) (p2 : Int32) (u : St) : Option (Int32 × St) :=
  gd (inb p1 4) (bd (pX6_isIn F (Int32.toInt64 p2) 0 ((u.2 65 (Int32.toNatClampNeg p1)) - 1) u) (fun (r2 : Int32) (u1 : St) => gd (z01 r2) (some (r2, u1))))
set_option maxRecDepth 100000 in
set_option maxHeartbeats 4000000 in
theorem tX4_hasCell {l : Launch} {D : va_G} {cI cZ : ClassId} {ad : Nat → Nat} {tBURNS tFLAME_BOUNDS : Nat} {tS : Option Nat} {adK adV : Nat → Nat} (F : Nat) (p1 : Int32) (p2 : Int32) (u : St) : CtI l D [(cI, .int), (cZ, .boolean)] (wX ad cI cZ) (EX tBURNS tFLAME_BOUNDS tS adK adV) yX4_hasCell wsX4_hasCell ({ frames := 1, cells := 0, slots := 0, locals := 23 } : Room) [.ref (ad 9), .int p1, .int p2] u (pX4_hasCell F p1 p2 u) := by
  refine ctI_of (own := RX4) (cc := cX4_hasCell) (n := 3) (ret := (some .boolean)) (by decide) rfl rfl (Nat.le_of_ble_eq_true rfl) (lv := [(0, .ref (ad 9)), (1, .int p1), (2, .int p2)]) rfl (fun C => ?_)
  have iX4 : ∀ w ∈ wsX40, w ∈ wsX4_hasCell := fun w h => List.mem_cons_of_mem _ (List.mem_append_right _ (inlX4 w h))
  rw [pX4_hasCell]
  refine g_iload_n C 0 2 dX4_hasCell_0 rfl ?_
  refine g_i2l C 1 dX4_hasCell_1 ?_
  refine g_iconst C 2 0 dX4_hasCell_2 rfl ?_
  refine g_aload_n C 3 0 dX4_hasCell_3 rfl ?_
  refine gfX_X4_size C 4 iX4 (List.mem_cons_of_mem _ (List.mem_append_right _ wgL_5_9.1)) dX4_hasCell_4 ?_
  refine g_iload_n C 7 1 dX4_hasCell_7 rfl ?_
  refine g_iald C 8 (10 + 65) 0 (wX_arr 65 (by decide)) rfl dX4_hasCell_8 ?_
  refine g_iconst C 9 1 dX4_hasCell_9 rfl ?_
  refine g_isub C 10 dX4_hasCell_10 ?_
  refine g_callNi (st := []) (As := [.long (Int32.toInt64 p2), .int 0, .int ((u.2 65 (Int32.toNatClampNeg p1)) - 1)]) C EX_ok EX_vm 11 3 (tX6_isIn F (Int32.toInt64 p2) 0 ((u.2 65 (Int32.toNatClampNeg p1)) - 1) u) rfl ggX4_hasCell_X6_isIn rfl rfl rfl (EX_n4 C.2.2.2.2.2.2.2.2.1) (by decide +kernel) (by decide +kernel) (by decide +kernel) ⟨Nat.le_of_ble_eq_true rfl, Nat.le_of_ble_eq_true rfl⟩ rfl (Nat.le_of_ble_eq_true rfl) dX4_hasCell_11 (fun r2 u1 => ?_)
  exact g_zret C 14 dX4_hasCell_14
def pX4_put (F : Nat) (p1 : Int32) (p2 : Int32) (p3 : Int32) (u : St) : Option (Unit × St) :=
  gd (inb p1 4) (jn (fun (a1 : Int32) (u2 : St) => gd (inb ((p1 * 40) + p2) 160) (vl (sta u2 63 ((p1 * 40) + p2) a1) (fun (u3 : St) => some ((), u3)))) (fun (J33 : Int32 → St → Option (Unit × St)) => if (u.2 64 (Int32.toNatClampNeg p1)) = 0 then vl (Int8.toInt32 (Int32.toInt8 p3)) (fun v5 => (J33 v5 u)) else gd (inb p1 4) (if (u.2 64 (Int32.toNatClampNeg p1)) = 1 then vl (Int16.toInt32 (Int32.toInt16 p3)) (fun v4 => (J33 v4 u)) else (J33 p3 u))))
set_option maxRecDepth 100000 in
set_option maxHeartbeats 4000000 in
theorem tX4_put {l : Launch} {D : va_G} {cI cZ : ClassId} {ad : Nat → Nat} {tBURNS tFLAME_BOUNDS : Nat} {tS : Option Nat} {adK adV : Nat → Nat} (F : Nat) (p1 : Int32) (p2 : Int32) (p3 : Int32) (u : St) : CtV l D [(cI, .int), (cZ, .boolean)] (wX ad cI cZ) (EX tBURNS tFLAME_BOUNDS tS adK adV) yX4_put wsX4_put ({ frames := 0, cells := 0, slots := 0, locals := 0 } : Room) [.ref (ad 9), .int p1, .int p2, .int p3] u (pX4_put F p1 p2 p3 u) := by
  refine ctV_of (own := RX4) (cc := cX4_put) (n := 5) (ret := none) (by decide) rfl rfl (Nat.le_of_ble_eq_true rfl) (lv := [(0, .ref (ad 9)), (1, .int p1), (2, .int p2), (3, .int p3)]) rfl (fun C => ?_)
  have iX4 : ∀ w ∈ wsX40, w ∈ wsX4_put := fun w h => List.mem_cons_of_mem _ (List.mem_append_right _ (inlX4 w h))
  rw [pX4_put]
  refine g_iload_n C 0 3 dX4_put_0 rfl ?_
  refine g_istore C 1 [(4, .int p3), (0, .ref (ad 9)), (1, .int p1), (2, .int p2), (3, .int p3)] dX4_put_1 (by decide) rfl ?_
  refine g_aload_n C 3 1 dX4_put_3 rfl ?_
  refine gfX_X4_lane C 4 iX4 (List.mem_cons_of_mem _ (List.mem_append_right _ wgL_5_8.1)) dX4_put_4 ?_
  refine g_iload_n C 7 2 dX4_put_7 rfl ?_
  refine g_iald C 8 (10 + 64) 0 (wX_arr 64 (by decide)) rfl dX4_put_8 ?_
  refine g_jn1 33 (fun (a1 : Int32) => [(0, .ref (ad 9)), (1, .int p1), (2, .int p2), (4, .int a1)]) (fun (a1 : Int32) => []) (fun a1 u2 => ?_) (fun J33 hJ33 => ?_)
  · skip
    refine g_aload_n C 33 0 dX4_put_33 rfl ?_
    refine gfX_X4_cells C 34 iX4 (List.mem_cons_of_mem _ (List.mem_append_right _ wgL_5_7.1)) dX4_put_34 ?_
    refine g_iload_n C 37 1 dX4_put_37 rfl ?_
    refine g_bipush C 38 40 dX4_put_38 rfl ?_
    refine g_imul C 40 dX4_put_40 ?_
    refine g_iload_n C 41 2 dX4_put_41 rfl ?_
    refine g_iadd C 42 dX4_put_42 ?_
    refine g_iload C 43 3 dX4_put_43 rfl ?_
    refine g_iast C 45 (10 + 63) 0 63 (wX_arr 63 (by decide)) (wX_aset 63 (by decide)) rfl dX4_put_45 (fun u3 => ?_)
    exact g_vret C 46 dX4_put_46
  · skip
    refine g_if_ne C 9 19 dX4_put_9 (by decide) ?_ ?_
    · skip
      refine g_aload_n C 19 1 dX4_put_19 rfl ?_
      refine gfX_X4_lane C 20 iX4 (List.mem_cons_of_mem _ (List.mem_append_right _ wgL_5_8.1)) dX4_put_20 ?_
      refine g_iload_n C 23 2 dX4_put_23 rfl ?_
      refine g_iald C 24 (10 + 64) 0 (wX_arr 64 (by decide)) rfl dX4_put_24 ?_
      refine g_iconst C 25 1 dX4_put_25 rfl ?_
      refine g_icmp_ne C 26 33 dX4_put_26 (by decide) ?_ ?_
      · skip
        exact g_sub _ [1, 2, 3, 0] rfl (hJ33 p3 u)
      · skip
        refine g_iload_n C 29 4 dX4_put_29 rfl ?_
        refine g_i2s C 30 dX4_put_30 ?_
        refine g_istoreV C 31 (fun v4 => [(4, .int v4), (0, .ref (ad 9)), (1, .int p1), (2, .int p2), (3, .int p3)]) dX4_put_31 (by decide) (fun _ => rfl) (fun v4 => ?_)
        exact g_sub _ [1, 2, 3, 0] rfl (hJ33 v4 u)
    · skip
      refine g_iload_n C 12 4 dX4_put_12 rfl ?_
      refine g_i2b C 13 dX4_put_13 ?_
      refine g_istoreV C 14 (fun v5 => [(4, .int v5), (0, .ref (ad 9)), (1, .int p1), (2, .int p2), (3, .int p3)]) dX4_put_14 (by decide) (fun _ => rfl) (fun v5 => ?_)
      refine g_goto C 16 33 dX4_put_16 (by decide) ?_
      exact g_sub _ [1, 2, 3, 0] rfl (hJ33 v5 u)
def pX6_lay (F : Nat) (p1 : Int32) (p2 : Int32) (p3 : Int32) (u : St) : Option (Int32 × St) :=
  bd (pX6_isSheet F p1 0 u) (fun (r2 : Int32) (u1 : St) => if r2 = 0 then some ((-1), u1) else bd (pX4_isNothing F p1 u1) (fun (r4 : Int32) (u3 : St) => if r4 = 0 then bd (pX4_hasCell F p1 p2 u3) (fun (r6 : Int32) (u5 : St) => if r6 = 0 then some ((-12), u5) else bd (pX4_put F p1 p2 p3 u5) (fun (_ : Unit) (u7 : St) => some (1, u7))) else some ((-11), u3)))
set_option maxRecDepth 100000 in
set_option maxHeartbeats 4000000 in
theorem tX6_lay {l : Launch} {D : va_G} {cI cZ : ClassId} {ad : Nat → Nat} {tBURNS tFLAME_BOUNDS : Nat} {tS : Option Nat} {adK adV : Nat → Nat} (F : Nat) (p1 : Int32) (p2 : Int32) (p3 : Int32) (u : St) : CtI l D [(cI, .int), (cZ, .boolean)] (wX ad cI cZ) (EX tBURNS tFLAME_BOUNDS tS adK adV) yX6_lay wsX6_lay ({ frames := 2, cells := 0, slots := 0, locals := 45 } : Room) [.ref (ad 0), .int p1, .int p2, .int p3] u (pX6_lay F p1 p2 p3 u) := by
  refine ctI_of (own := RX6) (cc := cX6_lay) (n := 4) (ret := (some .int)) (by decide) rfl rfl (Nat.le_of_ble_eq_true rfl) (lv := [(0, .ref (ad 0)), (1, .int p1), (2, .int p2), (3, .int p3)]) rfl (fun C => ?_)
  have iX6 : ∀ w ∈ wsX60, w ∈ wsX6_lay := fun w h => List.mem_cons_of_mem _ (List.mem_append_right _ (inlX6 w h))
  rw [pX6_lay]
  refine g_iload_n C 0 1 dX6_lay_0 rfl ?_
  refine g_iconst C 1 0 dX6_lay_1 rfl ?_
  refine g_callSi (st := []) (As := [.int p1, .int 0]) C EX_ok EX_vm 2 2 (tX6_isSheet F p1 0 u) rfl gX6_lay_X6_isSheet rfl rfl rfl (by decide +kernel) ⟨Nat.le_of_ble_eq_true rfl, Nat.le_of_ble_eq_true rfl⟩ rfl (Nat.le_of_ble_eq_true rfl) dX6_lay_2 (fun r2 u1 => ?_)
  refine g_if_ne C 5 10 dX6_lay_5 (by decide) ?_ ?_
  · skip
    refine g_aload_n C 10 0 dX6_lay_10 rfl ?_
    refine gfX_X6_sheets C 11 iX6 (List.mem_cons_of_mem _ (List.mem_append_right _ wgL_2_15.1)) dX6_lay_11 ?_
    refine g_iload_n C 14 1 dX6_lay_14 rfl ?_
    refine g_callVi (st := []) (As := [.int p1]) C EX_ok EX_vm 15 9 1 (tX4_isNothing F p1 u1) rfl gX6_lay_X4_isNothing rfl rfl rfl (by decide +kernel) ⟨Nat.le_of_ble_eq_true rfl, Nat.le_of_ble_eq_true rfl⟩ rfl rfl rfl (Nat.le_of_ble_eq_true rfl) dX6_lay_15 (fun r4 u3 => ?_)
    refine g_if_eq C 18 24 dX6_lay_18 (by decide) ?_ ?_
    · skip
      refine g_aload_n C 24 0 dX6_lay_24 rfl ?_
      refine gfX_X6_sheets C 25 iX6 (List.mem_cons_of_mem _ (List.mem_append_right _ wgL_2_15.1)) dX6_lay_25 ?_
      refine g_iload_n C 28 1 dX6_lay_28 rfl ?_
      refine g_iload_n C 29 2 dX6_lay_29 rfl ?_
      refine g_callVi (st := []) (As := [.int p1, .int p2]) C EX_ok EX_vm 30 9 2 (tX4_hasCell F p1 p2 u3) rfl gX6_lay_X4_hasCell rfl rfl rfl (by decide +kernel) ⟨Nat.le_of_ble_eq_true rfl, Nat.le_of_ble_eq_true rfl⟩ rfl rfl rfl (Nat.le_of_ble_eq_true rfl) dX6_lay_30 (fun r6 u5 => ?_)
      refine g_if_ne C 33 39 dX6_lay_33 (by decide) ?_ ?_
      · skip
        refine g_aload_n C 39 0 dX6_lay_39 rfl ?_
        refine gfX_X6_sheets C 40 iX6 (List.mem_cons_of_mem _ (List.mem_append_right _ wgL_2_15.1)) dX6_lay_40 ?_
        refine g_iload_n C 43 1 dX6_lay_43 rfl ?_
        refine g_iload_n C 44 2 dX6_lay_44 rfl ?_
        refine g_iload_n C 45 3 dX6_lay_45 rfl ?_
        refine g_callVv (st := []) (As := [.int p1, .int p2, .int p3]) C EX_ok EX_vm 46 9 3 (tX4_put F p1 p2 p3 u5) rfl gX6_lay_X4_put rfl rfl rfl (by decide +kernel) ⟨Nat.le_of_ble_eq_true rfl, Nat.le_of_ble_eq_true rfl⟩ rfl rfl rfl (Nat.le_of_ble_eq_true rfl) dX6_lay_46 (fun u7 => ?_)
        refine g_iconst C 49 1 dX6_lay_49 rfl ?_
        exact g_iret C 50 dX6_lay_50
      · skip
        refine g_bipush C 36 (-12) dX6_lay_36 rfl ?_
        exact g_iret C 38 dX6_lay_38
    · skip
      refine g_bipush C 21 (-11) dX6_lay_21 rfl ?_
      exact g_iret C 23 dX6_lay_23
  · skip
    refine g_iconst C 8 (-1) dX6_lay_8 rfl ?_
    exact g_iret C 9 dX6_lay_9
def pX4_faultAs (F : Nat) (p1 : Int32) (p2 : Int32) (u : St) : Option (Int32 × St) :=
  bd (pX4_isNothing F p1 u) (fun (r2 : Int32) (u1 : St) => if r2 = 0 then gd (inb p1 4) (if (u1.2 64 (Int32.toNatClampNeg p1)) = p2 then some (0, u1) else some (3, u1)) else some (1, u1))
set_option maxRecDepth 100000 in
set_option maxHeartbeats 4000000 in
theorem tX4_faultAs {l : Launch} {D : va_G} {cI cZ : ClassId} {ad : Nat → Nat} {tBURNS tFLAME_BOUNDS : Nat} {tS : Option Nat} {adK adV : Nat → Nat} (F : Nat) (p1 : Int32) (p2 : Int32) (u : St) : CtI l D [(cI, .int), (cZ, .boolean)] (wX ad cI cZ) (EX tBURNS tFLAME_BOUNDS tS adK adV) yX4_faultAs wsX4_faultAs ({ frames := 1, cells := 0, slots := 0, locals := 21 } : Room) [.ref (ad 9), .int p1, .int p2] u (pX4_faultAs F p1 p2 u) := by
  refine ctI_of (own := RX4) (cc := cX4_faultAs) (n := 3) (ret := (some .int)) (by decide) rfl rfl (Nat.le_of_ble_eq_true rfl) (lv := [(0, .ref (ad 9)), (1, .int p1), (2, .int p2)]) rfl (fun C => ?_)
  have iX4 : ∀ w ∈ wsX40, w ∈ wsX4_faultAs := fun w h => List.mem_cons_of_mem _ (List.mem_append_right _ (inlX4 w h))
  rw [pX4_faultAs]
  refine g_aload_n C 0 0 dX4_faultAs_0 rfl ?_
  refine g_iload_n C 1 1 dX4_faultAs_1 rfl ?_
  refine g_callVi (st := []) (As := [.int p1]) C EX_ok EX_vm 2 9 1 (tX4_isNothing F p1 u) rfl gX4_faultAs_X4_isNothing rfl rfl rfl (by decide +kernel) ⟨Nat.le_of_ble_eq_true rfl, Nat.le_of_ble_eq_true rfl⟩ rfl rfl rfl (Nat.le_of_ble_eq_true rfl) dX4_faultAs_2 (fun r2 u1 => ?_)
  refine g_if_eq C 5 10 dX4_faultAs_5 (by decide) ?_ ?_
  · skip
    refine g_aload_n C 10 0 dX4_faultAs_10 rfl ?_
    refine gfX_X4_lane C 11 iX4 (List.mem_cons_of_mem _ (List.mem_append_right _ wgL_5_8.1)) dX4_faultAs_11 ?_
    refine g_iload_n C 14 1 dX4_faultAs_14 rfl ?_
    refine g_iald C 15 (10 + 64) 0 (wX_arr 64 (by decide)) rfl dX4_faultAs_15 ?_
    refine g_iload_n C 16 2 dX4_faultAs_16 rfl ?_
    refine g_icmp_ne C 17 24 dX4_faultAs_17 (by decide) ?_ ?_
    · skip
      refine g_iconst C 24 3 dX4_faultAs_24 rfl ?_
      exact g_iret C 25 dX4_faultAs_25
    · skip
      refine g_iconst C 20 0 dX4_faultAs_20 rfl ?_
      refine g_goto C 21 25 dX4_faultAs_21 (by decide) ?_
      exact g_iret C 25 dX4_faultAs_25
  · skip
    refine g_iconst C 8 1 dX4_faultAs_8 rfl ?_
    exact g_iret C 9 dX4_faultAs_9
def pX4_wholePairs (F : Nat) (p1 : Int32) (p2 : Int32) (p3 : Int32) (u : St) : Option (Int32 × St) :=
  bd (pX4_hasCell F p1 p2 u) (fun (r2 : Int32) (u1 : St) => if r2 = 0 then some (0, u1) else gd (inb p1 4) (gd (nz 2) (some ((if (((u1.2 65 (Int32.toNatClampNeg p1)) - p2) / 2) < p3 then (((u1.2 65 (Int32.toNatClampNeg p1)) - p2) / 2) else p3), u1))))
set_option maxRecDepth 100000 in
set_option maxHeartbeats 4000000 in
theorem tX4_wholePairs {l : Launch} {D : va_G} {cI cZ : ClassId} {ad : Nat → Nat} {tBURNS tFLAME_BOUNDS : Nat} {tS : Option Nat} {adK adV : Nat → Nat} (F : Nat) (p1 : Int32) (p2 : Int32) (p3 : Int32) (u : St) : CtI l D [(cI, .int), (cZ, .boolean)] (wX ad cI cZ) (EX tBURNS tFLAME_BOUNDS tS adK adV) yX4_wholePairs wsX4_wholePairs ({ frames := 2, cells := 0, slots := 0, locals := 45 } : Room) [.ref (ad 9), .int p1, .int p2, .int p3] u (pX4_wholePairs F p1 p2 p3 u) := by
  refine ctI_of (own := RX4) (cc := cX4_wholePairs) (n := 4) (ret := (some .int)) (by decide) rfl rfl (Nat.le_of_ble_eq_true rfl) (lv := [(0, .ref (ad 9)), (1, .int p1), (2, .int p2), (3, .int p3)]) rfl (fun C => ?_)
  have iX4 : ∀ w ∈ wsX40, w ∈ wsX4_wholePairs := fun w h => List.mem_cons_of_mem _ (List.mem_append_right _ (inlX4 w h))
  rw [pX4_wholePairs]
  refine g_aload_n C 0 0 dX4_wholePairs_0 rfl ?_
  refine g_iload_n C 1 1 dX4_wholePairs_1 rfl ?_
  refine g_iload_n C 2 2 dX4_wholePairs_2 rfl ?_
  refine g_callVi (st := []) (As := [.int p1, .int p2]) C EX_ok EX_vm 3 9 2 (tX4_hasCell F p1 p2 u) rfl gX4_wholePairs_X4_hasCell rfl rfl rfl (by decide +kernel) ⟨Nat.le_of_ble_eq_true rfl, Nat.le_of_ble_eq_true rfl⟩ rfl rfl rfl (Nat.le_of_ble_eq_true rfl) dX4_wholePairs_3 (fun r2 u1 => ?_)
  refine g_if_eq C 6 26 dX4_wholePairs_6 (by decide) ?_ ?_
  · skip
    refine g_iconst C 26 0 dX4_wholePairs_26 rfl ?_
    exact g_iret C 27 dX4_wholePairs_27
  · skip
    refine g_iload_n C 9 3 dX4_wholePairs_9 rfl ?_
    refine g_aload_n C 10 0 dX4_wholePairs_10 rfl ?_
    refine gfX_X4_size C 11 iX4 (List.mem_cons_of_mem _ (List.mem_append_right _ wgL_5_9.1)) dX4_wholePairs_11 ?_
    refine g_iload_n C 14 1 dX4_wholePairs_14 rfl ?_
    refine g_iald C 15 (10 + 65) 0 (wX_arr 65 (by decide)) rfl dX4_wholePairs_15 ?_
    refine g_iload_n C 16 2 dX4_wholePairs_16 rfl ?_
    refine g_isub C 17 dX4_wholePairs_17 ?_
    refine g_iconst C 18 2 dX4_wholePairs_18 rfl ?_
    refine g_idiv C 19 dX4_wholePairs_19 ?_
    refine g_mmin C 20 (by decide +kernel) (by decide +kernel) (by decide +kernel) (by decide +kernel) ⟨Nat.le_of_ble_eq_true rfl, Nat.le_of_ble_eq_true rfl⟩ dX4_wholePairs_20 ?_
    refine g_goto C 23 27 dX4_wholePairs_23 (by decide) ?_
    exact g_iret C 27 dX4_wholePairs_27
def pX4_cell (F : Nat) (p1 : Int32) (p2 : Int32) (u : St) : Option (Int32 × St) :=
  bd (pX4_hasCell F p1 p2 u) (fun (r2 : Int32) (u1 : St) => if r2 = 0 then some ((-4), u1) else gd (inb ((p1 * 40) + p2) 160) (some ((u1.2 63 (Int32.toNatClampNeg ((p1 * 40) + p2))), u1)))
set_option maxRecDepth 100000 in
set_option maxHeartbeats 4000000 in
theorem tX4_cell {l : Launch} {D : va_G} {cI cZ : ClassId} {ad : Nat → Nat} {tBURNS tFLAME_BOUNDS : Nat} {tS : Option Nat} {adK adV : Nat → Nat} (F : Nat) (p1 : Int32) (p2 : Int32) (u : St) : CtI l D [(cI, .int), (cZ, .boolean)] (wX ad cI cZ) (EX tBURNS tFLAME_BOUNDS tS adK adV) yX4_cell wsX4_cell ({ frames := 2, cells := 0, slots := 0, locals := 45 } : Room) [.ref (ad 9), .int p1, .int p2] u (pX4_cell F p1 p2 u) := by
  refine ctI_of (own := RX4) (cc := cX4_cell) (n := 3) (ret := (some .int)) (by decide) rfl rfl (Nat.le_of_ble_eq_true rfl) (lv := [(0, .ref (ad 9)), (1, .int p1), (2, .int p2)]) rfl (fun C => ?_)
  have iX4 : ∀ w ∈ wsX40, w ∈ wsX4_cell := fun w h => List.mem_cons_of_mem _ (List.mem_append_right _ (inlX4 w h))
  rw [pX4_cell]
  refine g_aload_n C 0 0 dX4_cell_0 rfl ?_
  refine g_iload_n C 1 1 dX4_cell_1 rfl ?_
  refine g_iload_n C 2 2 dX4_cell_2 rfl ?_
  refine g_callVi (st := []) (As := [.int p1, .int p2]) C EX_ok EX_vm 3 9 2 (tX4_hasCell F p1 p2 u) rfl gX4_cell_X4_hasCell rfl rfl rfl (by decide +kernel) ⟨Nat.le_of_ble_eq_true rfl, Nat.le_of_ble_eq_true rfl⟩ rfl rfl rfl (Nat.le_of_ble_eq_true rfl) dX4_cell_3 (fun r2 u1 => ?_)
  refine g_if_eq C 6 23 dX4_cell_6 (by decide) ?_ ?_
  · skip
    refine g_bipush C 23 (-4) dX4_cell_23 rfl ?_
    exact g_iret C 25 dX4_cell_25
  · skip
    refine g_aload_n C 9 0 dX4_cell_9 rfl ?_
    refine gfX_X4_cells C 10 iX4 (List.mem_cons_of_mem _ (List.mem_append_right _ wgL_5_7.1)) dX4_cell_10 ?_
    refine g_iload_n C 13 1 dX4_cell_13 rfl ?_
    refine g_bipush C 14 40 dX4_cell_14 rfl ?_
    refine g_imul C 16 dX4_cell_16 ?_
    refine g_iload_n C 17 2 dX4_cell_17 rfl ?_
    refine g_iadd C 18 dX4_cell_18 ?_
    refine g_iald C 19 (10 + 63) 0 (wX_arr 63 (by decide)) rfl dX4_cell_19 ?_
    refine g_goto C 20 25 dX4_cell_20 (by decide) ?_
    exact g_iret C 25 dX4_cell_25
def bX6_pairsAccepted_6 (F : Nat) (p1 : Int32) (p2 : Int32) (p3 : Int32) (self4 : Int32 → Int32 → St → Option (Int32 × St)) (x1 : Int32) (x2 : Int32) (u3 : St) : Option (Int32 × St) :=
  if p3 ≤ x2 then some (p3, u3) else bd (pX4_cell F p1 (p2 + (2 * x2)) u3) (fun (r6 : Int32) (u5 : St) => bd (pX4_cell F p1 ((p2 + (2 * x2)) + 1) u5) (fun (r8 : Int32) (u7 : St) => bd (pX0_hasCase F 0 (Int32.toInt64 r6) u7) (fun (r10 : Int32) (u9 : St) => if r10 = 0 then some (x2, u9) else bd (pX0_hasJudge F 0 r8 u9) (fun (r12 : Int32) (u11 : St) => if r12 = 0 then some (x2, u11) else gd (inb r6 4) (if (u11.2 3 (Int32.toNatClampNeg r6)) = 0 then if ((x1 >>> (r6 &&& 31)) &&& 1) = 0 then vl (x1 ||| (1 <<< (r6 &&& 31))) (fun v13 => (self4 v13 (x2 + 1) u11)) else some (x2, u11) else some (x2, u11))))))
def pX6_pairsAccepted (F : Nat) (p1 : Int32) (p2 : Int32) (p3 : Int32) (u : St) : Option (Int32 × St) :=
  (lq2 (bX6_pairsAccepted_6 F p1 p2 p3) F 0 0 u)
set_option maxRecDepth 100000 in
set_option maxHeartbeats 4000000 in
theorem tX6_pairsAccepted {l : Launch} {D : va_G} {cI cZ : ClassId} {ad : Nat → Nat} {tBURNS tFLAME_BOUNDS : Nat} {tS : Option Nat} {adK adV : Nat → Nat} (F : Nat) (p1 : Int32) (p2 : Int32) (p3 : Int32) (u : St) : CtI l D [(cI, .int), (cZ, .boolean)] (wX ad cI cZ) (EX tBURNS tFLAME_BOUNDS tS adK adV) yX6_pairsAccepted wsX6_pairsAccepted ({ frames := 3, cells := 0, slots := 0, locals := 67 } : Room) [.ref (ad 0), .int p1, .int p2, .int p3] u (pX6_pairsAccepted F p1 p2 p3 u) := by
  refine ctI_of (own := RX6) (cc := cX6_pairsAccepted) (n := 8) (ret := (some .int)) (by decide) rfl rfl (Nat.le_of_ble_eq_true rfl) (lv := [(0, .ref (ad 0)), (1, .int p1), (2, .int p2), (3, .int p3)]) rfl (fun C => ?_)
  have iX0 : ∀ w ∈ wsX00, w ∈ wsX6_pairsAccepted := fun w h => List.mem_cons_of_mem _ (List.mem_append_right _ (inlX0 w h))
  have iX6 : ∀ w ∈ wsX60, w ∈ wsX6_pairsAccepted := fun w h => List.mem_cons_of_mem _ (List.mem_append_right _ (inlX6 w h))
  rw [pX6_pairsAccepted]
  refine g_iconst C 0 0 dX6_pairsAccepted_0 rfl ?_
  refine g_istore C 1 [(4, .int 0), (0, .ref (ad 0)), (1, .int p1), (2, .int p2), (3, .int p3)] dX6_pairsAccepted_1 (by decide) rfl ?_
  refine g_iconst C 3 0 dX6_pairsAccepted_3 rfl ?_
  refine g_istore C 4 [(5, .int 0), (4, .int 0), (0, .ref (ad 0)), (1, .int p1), (2, .int p2), (3, .int p3)] dX6_pairsAccepted_4 (by decide) rfl ?_
  refine g_sub _ [2, 3, 4, 5, 1, 0] rfl ?_
  refine g_lq2 (fun (x1 : Int32) (x2 : Int32) => [(0, .ref (ad 0)), (1, .int p1), (2, .int p2), (3, .int p3), (4, .int x1), (5, .int x2)]) (fun self4 hself4 x1 x2 u3 => ?_) F 0 0 u
  rw [bX6_pairsAccepted_6]
  refine g_iload C 6 5 dX6_pairsAccepted_6 rfl ?_
  refine g_iload_n C 8 3 dX6_pairsAccepted_8 rfl ?_
  refine g_icmp_ge C 9 112 dX6_pairsAccepted_9 (by decide) ?_ ?_
  · skip
    refine g_iload_n C 112 3 dX6_pairsAccepted_112 rfl ?_
    exact g_iret C 113 dX6_pairsAccepted_113
  · skip
    refine g_aload_n C 12 0 dX6_pairsAccepted_12 rfl ?_
    refine gfX_X6_sheets C 13 iX6 (List.mem_cons_of_mem _ (List.mem_append_right _ wgL_2_15.1)) dX6_pairsAccepted_13 ?_
    refine g_iload_n C 16 1 dX6_pairsAccepted_16 rfl ?_
    refine g_iload_n C 17 2 dX6_pairsAccepted_17 rfl ?_
    refine g_iconst C 18 2 dX6_pairsAccepted_18 rfl ?_
    refine g_iload C 19 5 dX6_pairsAccepted_19 rfl ?_
    refine g_imul C 21 dX6_pairsAccepted_21 ?_
    refine g_iadd C 22 dX6_pairsAccepted_22 ?_
    refine g_callVi (st := []) (As := [.int p1, .int (p2 + (2 * x2))]) C EX_ok EX_vm 23 9 2 (tX4_cell F p1 (p2 + (2 * x2)) u3) rfl gX6_pairsAccepted_X4_cell rfl rfl rfl (by decide +kernel) ⟨Nat.le_of_ble_eq_true rfl, Nat.le_of_ble_eq_true rfl⟩ rfl rfl rfl (Nat.le_of_ble_eq_true rfl) dX6_pairsAccepted_23 (fun r6 u5 => ?_)
    refine g_istore C 26 [(6, .int r6), (0, .ref (ad 0)), (1, .int p1), (2, .int p2), (3, .int p3), (4, .int x1), (5, .int x2)] dX6_pairsAccepted_26 (by decide) rfl ?_
    refine g_aload_n C 28 1 dX6_pairsAccepted_28 rfl ?_
    refine gfX_X6_sheets C 29 iX6 (List.mem_cons_of_mem _ (List.mem_append_right _ wgL_2_15.1)) dX6_pairsAccepted_29 ?_
    refine g_iload_n C 32 2 dX6_pairsAccepted_32 rfl ?_
    refine g_iload_n C 33 3 dX6_pairsAccepted_33 rfl ?_
    refine g_iconst C 34 2 dX6_pairsAccepted_34 rfl ?_
    refine g_iload C 35 6 dX6_pairsAccepted_35 rfl ?_
    refine g_imul C 37 dX6_pairsAccepted_37 ?_
    refine g_iadd C 38 dX6_pairsAccepted_38 ?_
    refine g_iconst C 39 1 dX6_pairsAccepted_39 rfl ?_
    refine g_iadd C 40 dX6_pairsAccepted_40 ?_
    refine g_callVi (st := []) (As := [.int p1, .int ((p2 + (2 * x2)) + 1)]) C EX_ok EX_vm 41 9 2 (tX4_cell F p1 ((p2 + (2 * x2)) + 1) u5) rfl gX6_pairsAccepted_X4_cell rfl rfl rfl (by decide +kernel) ⟨Nat.le_of_ble_eq_true rfl, Nat.le_of_ble_eq_true rfl⟩ rfl rfl rfl (Nat.le_of_ble_eq_true rfl) dX6_pairsAccepted_41 (fun r8 u7 => ?_)
    refine g_istore C 44 [(7, .int r8), (6, .int r6), (0, .ref (ad 0)), (1, .int p1), (2, .int p2), (3, .int p3), (4, .int x1), (5, .int x2)] dX6_pairsAccepted_44 (by decide) rfl ?_
    refine g_aload_n C 46 2 dX6_pairsAccepted_46 rfl ?_
    refine gfX_X6_court C 47 iX6 (List.mem_cons_of_mem _ (List.mem_append_right _ wgL_1_15.1)) dX6_pairsAccepted_47 ?_
    refine g_iload C 50 1 dX6_pairsAccepted_50 rfl ?_
    refine g_i2l C 52 dX6_pairsAccepted_52 ?_
    refine g_callVi (st := []) (As := [.long (Int32.toInt64 r6)]) C EX_ok EX_vm 53 1 1 (tX0_hasCase F 0 (by decide) (Int32.toInt64 r6) u7) rfl gX6_pairsAccepted_X0_hasCase rfl rfl rfl (by decide +kernel) ⟨Nat.le_of_ble_eq_true rfl, Nat.le_of_ble_eq_true rfl⟩ (wX_X0 ad cI cZ _ 0 (by decide)) rfl rfl (Nat.le_of_ble_eq_true rfl) dX6_pairsAccepted_53 (fun r10 u9 => ?_)
    refine g_if_eq C 56 94 dX6_pairsAccepted_56 (by decide) ?_ ?_
    · skip
      refine g_iload C 94 7 dX6_pairsAccepted_94 rfl ?_
      exact g_iret C 96 dX6_pairsAccepted_96
    · skip
      refine g_aload_n C 59 2 dX6_pairsAccepted_59 rfl ?_
      refine gfX_X6_court C 60 iX6 (List.mem_cons_of_mem _ (List.mem_append_right _ wgL_1_15.1)) dX6_pairsAccepted_60 ?_
      refine g_iload C 63 0 dX6_pairsAccepted_63 rfl ?_
      refine g_callVi (st := []) (As := [.int r8]) C EX_ok EX_vm 65 1 1 (tX0_hasJudge F 0 (by decide) r8 u9) rfl gX6_pairsAccepted_X0_hasJudge rfl rfl rfl (by decide +kernel) ⟨Nat.le_of_ble_eq_true rfl, Nat.le_of_ble_eq_true rfl⟩ (wX_X0 ad cI cZ _ 0 (by decide)) rfl rfl (Nat.le_of_ble_eq_true rfl) dX6_pairsAccepted_65 (fun r12 u11 => ?_)
      refine g_if_eq C 68 94 dX6_pairsAccepted_68 (by decide) ?_ ?_
      · skip
        refine g_iload C 94 7 dX6_pairsAccepted_94 rfl ?_
        exact g_iret C 96 dX6_pairsAccepted_96
      · skip
        refine g_aload_n C 71 2 dX6_pairsAccepted_71 rfl ?_
        refine gfX_X6_court C 72 iX6 (List.mem_cons_of_mem _ (List.mem_append_right _ wgL_1_15.1)) dX6_pairsAccepted_72 ?_
        refine gfX_X0_verdict 0 (by decide) C 75 iX0 (List.mem_cons_of_mem _ (List.mem_append_right _ wgL_18_9.1)) dX6_pairsAccepted_75 ?_
        refine g_iload C 78 1 dX6_pairsAccepted_78 rfl ?_
        refine g_iald C 80 (10 + 3) 0 (wX_arr 3 (by decide)) rfl dX6_pairsAccepted_80 ?_
        refine g_if_ne C 81 94 dX6_pairsAccepted_81 (by decide) ?_ ?_
        · skip
          refine g_iload C 94 7 dX6_pairsAccepted_94 rfl ?_
          exact g_iret C 96 dX6_pairsAccepted_96
        · skip
          refine g_iload C 84 6 dX6_pairsAccepted_84 rfl ?_
          refine g_iload C 86 1 dX6_pairsAccepted_86 rfl ?_
          refine g_ishr C 88 dX6_pairsAccepted_88 ?_
          refine g_iconst C 89 1 dX6_pairsAccepted_89 rfl ?_
          refine g_iand C 90 dX6_pairsAccepted_90 ?_
          refine g_if_eq C 91 97 dX6_pairsAccepted_91 (by decide) ?_ ?_
          · skip
            refine g_iload C 97 6 dX6_pairsAccepted_97 rfl ?_
            refine g_iconst C 99 1 dX6_pairsAccepted_99 rfl ?_
            refine g_iload C 100 1 dX6_pairsAccepted_100 rfl ?_
            refine g_ishl C 102 dX6_pairsAccepted_102 ?_
            refine g_ior C 103 dX6_pairsAccepted_103 ?_
            refine g_istoreV C 104 (fun v13 => [(4, .int v13), (7, .int r8), (6, .int r6), (0, .ref (ad 0)), (1, .int p1), (2, .int p2), (3, .int p3), (5, .int x2)]) dX6_pairsAccepted_104 (by decide) (fun _ => rfl) (fun v13 => ?_)
            refine g_iinc C 106 7 [(5, .int (x2 + 1)), (4, .int v13), (7, .int r8), (6, .int r6), (0, .ref (ad 0)), (1, .int p1), (2, .int p2), (3, .int p3)] dX6_pairsAccepted_106 rfl rfl (by decide) rfl ?_
            refine g_goto C 109 6 dX6_pairsAccepted_109 (by decide) ?_
            exact g_sub _ [4, 5, 6, 7, 1, 0] rfl (hself4 v13 (x2 + 1) u11)
          · skip
            refine g_iload C 94 7 dX6_pairsAccepted_94 rfl ?_
            exact g_iret C 96 dX6_pairsAccepted_96
def jX6_read_138 (F : Nat) (p4 : Int32) (a5 : Int32) (a7 : Int32)  (u11 : St) : Option (Int32 × St) :=
  jn (fun (a12 : Int32) (u13 : St) => vl (stf u13 16 a12) (fun (u14 : St) => some (a7, u14))) (fun (J157 : Int32 → St → Option (Int32 × St)) => jn (fun (u15 : St) => (J157 a5 u15)) (fun (J155 : St → Option (Int32 × St)) => if a5 = 0 then if p4 ≤ a7 then (J155 u11) else (J157 2 u11) else (J155 u11)))
def bX6_read_90 (F : Nat) (p1 : Int32) (p3 : Int32) (a7 : Int32) (J138 : St → Option (Int32 × St)) (self18 : Int32 → St → Option (Int32 × St)) (x16 : Int32) (u17 : St) : Option (Int32 × St) :=
  if a7 ≤ x16 then (J138 u17) else bd (pX4_cell F p1 (p3 + (2 * x16)) u17) (fun (r20 : Int32) (u19 : St) => bd (pX4_cell F p1 ((p3 + (2 * x16)) + 1) u19) (fun (r22 : Int32) (u21 : St) => bd (pX6_hearForGood F r20 r22 u21) (fun (r24 : Int32) (u23 : St) => (self18 (x16 + 1) u23))))
def pX6_read (F : Nat) (p1 : Int32) (p2 : Int32) (p3 : Int32) (p4 : Int32) (u : St) : Option (Int32 × St) :=
  bd (pX6_isSheet F p1 p2 u) (fun (r2 : Int32) (u1 : St) => if r2 = 0 then some ((-1), u1) else bd (pX6_isIn F (Int32.toInt64 p4) 0 20 u1) (fun (r4 : Int32) (u3 : St) => if r4 = 0 then some ((-1), u3) else jn (fun (a5 : Int32) (u6 : St) => jn (fun (a7 : Int32) (u8 : St) => bd (pX6_pairsAccepted F p1 p3 a7 u8) (fun (r10 : Int32) (u9 : St) => if a7 ≤ r10 then jn (jX6_read_138 F p4 a5 a7) (fun (J138 : St → Option (Int32 × St)) => (lq1 (bX6_read_90 F p1 p3 a7 J138) F 0 u9)) else some (((-20) - r10), u9))) (fun (J62 : Int32 → St → Option (Int32 × St)) => if a5 = 0 then bd (pX4_wholePairs F p1 p3 p4 u6) (fun (r26 : Int32) (u25 : St) => (J62 r26 u25)) else (J62 0 u6))) (fun (J40 : Int32 → St → Option (Int32 × St)) => if p4 = 0 then (J40 0 u3) else bd (pX4_faultAs F p1 p2 u3) (fun (r28 : Int32) (u27 : St) => (J40 r28 u27)))))
set_option maxRecDepth 100000 in
set_option maxHeartbeats 4000000 in
theorem tX6_read {l : Launch} {D : va_G} {cI cZ : ClassId} {ad : Nat → Nat} {tBURNS tFLAME_BOUNDS : Nat} {tS : Option Nat} {adK adV : Nat → Nat} (F : Nat) (p1 : Int32) (p2 : Int32) (p3 : Int32) (p4 : Int32) (u : St) : CtI l D [(cI, .int), (cZ, .boolean)] (wX ad cI cZ) (EX tBURNS tFLAME_BOUNDS tS adK adV) yX6_read wsX6_read ({ frames := 6, cells := 0, slots := 0, locals := 130 } : Room) [.ref (ad 0), .int p1, .int p2, .int p3, .int p4] u (pX6_read F p1 p2 p3 p4 u) := by
  refine ctI_of (own := RX6) (cc := cX6_read) (n := 9) (ret := (some .int)) (by decide) rfl rfl (Nat.le_of_ble_eq_true rfl) (lv := [(0, .ref (ad 0)), (1, .int p1), (2, .int p2), (3, .int p3), (4, .int p4)]) rfl (fun C => ?_)
  have iX6 : ∀ w ∈ wsX60, w ∈ wsX6_read := fun w h => List.mem_cons_of_mem _ (List.mem_append_right _ (inlX6 w h))
  rw [pX6_read]
  refine g_iload_n C 0 1 dX6_read_0 rfl ?_
  refine g_iload_n C 1 2 dX6_read_1 rfl ?_
  refine g_callSi (st := []) (As := [.int p1, .int p2]) C EX_ok EX_vm 2 2 (tX6_isSheet F p1 p2 u) rfl gX6_read_X6_isSheet rfl rfl rfl (by decide +kernel) ⟨Nat.le_of_ble_eq_true rfl, Nat.le_of_ble_eq_true rfl⟩ rfl (Nat.le_of_ble_eq_true rfl) dX6_read_2 (fun r2 u1 => ?_)
  refine g_if_eq C 5 20 dX6_read_5 (by decide) ?_ ?_
  · skip
    refine g_iconst C 20 (-1) dX6_read_20 rfl ?_
    exact g_iret C 21 dX6_read_21
  · skip
    refine g_iload C 8 4 dX6_read_8 rfl ?_
    refine g_i2l C 10 dX6_read_10 ?_
    refine g_iconst C 11 0 dX6_read_11 rfl ?_
    refine g_bipush C 12 20 dX6_read_12 rfl ?_
    refine g_callSi (st := []) (As := [.long (Int32.toInt64 p4), .int 0, .int 20]) C EX_ok EX_vm 14 3 (tX6_isIn F (Int32.toInt64 p4) 0 20 u1) rfl gX6_read_X6_isIn rfl rfl rfl (by decide +kernel) ⟨Nat.le_of_ble_eq_true rfl, Nat.le_of_ble_eq_true rfl⟩ rfl (Nat.le_of_ble_eq_true rfl) dX6_read_14 (fun r4 u3 => ?_)
    refine g_if_ne C 17 22 dX6_read_17 (by decide) ?_ ?_
    · skip
      refine g_iload C 22 4 dX6_read_22 rfl ?_
      refine g_jn1 40 (fun (a5 : Int32) => [(0, .ref (ad 0)), (1, .int p1), (3, .int p3), (4, .int p4)]) (fun (a5 : Int32) => [.int a5]) (fun a5 u6 => ?_) (fun J40 hJ40 => ?_)
      · skip
        refine g_istore C 40 [(5, .int a5), (0, .ref (ad 0)), (1, .int p1), (3, .int p3), (4, .int p4)] dX6_read_40 (by decide) rfl ?_
        refine g_iload C 42 0 dX6_read_42 rfl ?_
        refine g_jn1 62 (fun (a7 : Int32) => [(0, .ref (ad 0)), (1, .int p1), (3, .int p3), (4, .int p4), (5, .int a5)]) (fun (a7 : Int32) => [.int a7]) (fun a7 u8 => ?_) (fun J62 hJ62 => ?_)
        · skip
          refine g_istore C 62 [(6, .int a7), (0, .ref (ad 0)), (1, .int p1), (3, .int p3), (4, .int p4), (5, .int a5)] dX6_read_62 (by decide) rfl ?_
          refine g_aload_n C 64 1 dX6_read_64 rfl ?_
          refine g_iload_n C 65 2 dX6_read_65 rfl ?_
          refine g_iload_n C 66 3 dX6_read_66 rfl ?_
          refine g_iload C 67 0 dX6_read_67 rfl ?_
          refine g_callVi (st := []) (As := [.int p1, .int p3, .int a7]) C EX_ok EX_vm 69 0 3 (tX6_pairsAccepted F p1 p3 a7 u8) rfl gX6_read_X6_pairsAccepted rfl rfl rfl (by decide +kernel) ⟨Nat.le_of_ble_eq_true rfl, Nat.le_of_ble_eq_true rfl⟩ rfl rfl rfl (Nat.le_of_ble_eq_true rfl) dX6_read_69 (fun r10 u9 => ?_)
          refine g_istore C 72 [(7, .int r10), (6, .int a7), (0, .ref (ad 0)), (1, .int p1), (3, .int p3), (4, .int p4), (5, .int a5)] dX6_read_72 (by decide) rfl ?_
          refine g_iload C 74 0 dX6_read_74 rfl ?_
          refine g_iload C 76 1 dX6_read_76 rfl ?_
          refine g_icmp_ge C 78 87 dX6_read_78 (by decide) ?_ ?_
          · skip
            refine g_iconst C 87 0 dX6_read_87 rfl ?_
            refine g_istore C 88 [(8, .int 0), (7, .int r10), (6, .int a7), (0, .ref (ad 0)), (1, .int p1), (3, .int p3), (4, .int p4), (5, .int a5)] dX6_read_88 (by decide) rfl ?_
            refine g_jn0 138 ([(0, .ref (ad 0)), (4, .int p4), (5, .int a5), (6, .int a7)]) ([]) (fun u11 => ?_) (fun J138 hJ138 => ?_)
            · skip
              rw [jX6_read_138]
              refine g_aload_n C 138 0 dX6_read_138 rfl ?_
              refine g_iload C 139 2 dX6_read_139 rfl ?_
              refine g_jn1 157 (fun (a12 : Int32) => [(6, .int a7)]) (fun (a12 : Int32) => [.int a12, .ref (ad 0)]) (fun a12 u13 => ?_) (fun J157 hJ157 => ?_)
              · skip
                refine pfX_X6_lastTorn C 157 iX6 (List.mem_cons_of_mem _ (List.mem_append_right _ wgL_2_19.1)) dX6_read_157 (fun u14 => ?_)
                refine g_iload C 160 0 dX6_read_160 rfl ?_
                exact g_iret C 162 dX6_read_162
              · skip
                refine g_jn0 155 ([(5, .int a5), (6, .int a7)]) ([.ref (ad 0)]) (fun u15 => ?_) (fun J155 hJ155 => ?_)
                · skip
                  refine g_iload C 155 0 dX6_read_155 rfl ?_
                  exact g_sub _ [1] rfl (hJ157 a5 u15)
                · skip
                  refine g_if_ne C 141 155 dX6_read_141 (by decide) ?_ ?_
                  · skip
                    exact g_sub _ [2, 3] rfl (hJ155 u11)
                  · skip
                    refine g_iload C 144 3 dX6_read_144 rfl ?_
                    refine g_iload C 146 1 dX6_read_146 rfl ?_
                    refine g_icmp_ge C 148 155 dX6_read_148 (by decide) ?_ ?_
                    · skip
                      exact g_sub _ [2, 3] rfl (hJ155 u11)
                    · skip
                      refine g_iconst C 151 2 dX6_read_151 rfl ?_
                      refine g_goto C 152 157 dX6_read_152 (by decide) ?_
                      exact g_sub _ [3] rfl (hJ157 2 u11)
            · skip
              refine g_sub _ [3, 4, 5, 6, 7, 2, 0] rfl ?_
              refine g_lq1 (fun (x16 : Int32) => [(0, .ref (ad 0)), (1, .int p1), (3, .int p3), (4, .int p4), (5, .int a5), (6, .int a7), (8, .int x16)]) (fun self18 hself18 x16 u17 => ?_) F 0 u9
              rw [bX6_read_90]
              refine g_iload C 90 6 dX6_read_90 rfl ?_
              refine g_iload C 92 5 dX6_read_92 rfl ?_
              refine g_icmp_ge C 94 138 dX6_read_94 (by decide) ?_ ?_
              · skip
                exact g_sub _ [0, 3, 4, 5] rfl (hJ138 u17)
              · skip
                refine g_aload_n C 97 0 dX6_read_97 rfl ?_
                refine g_aload_n C 98 0 dX6_read_98 rfl ?_
                refine gfX_X6_sheets C 99 iX6 (List.mem_cons_of_mem _ (List.mem_append_right _ wgL_2_15.1)) dX6_read_99 ?_
                refine g_iload_n C 102 1 dX6_read_102 rfl ?_
                refine g_iload_n C 103 2 dX6_read_103 rfl ?_
                refine g_iconst C 104 2 dX6_read_104 rfl ?_
                refine g_iload C 105 6 dX6_read_105 rfl ?_
                refine g_imul C 107 dX6_read_107 ?_
                refine g_iadd C 108 dX6_read_108 ?_
                refine g_callVi (st := [.ref (ad 0)]) (As := [.int p1, .int (p3 + (2 * x16))]) C EX_ok EX_vm 109 9 2 (tX4_cell F p1 (p3 + (2 * x16)) u17) rfl gX6_read_X4_cell rfl rfl rfl (by decide +kernel) ⟨Nat.le_of_ble_eq_true rfl, Nat.le_of_ble_eq_true rfl⟩ rfl rfl rfl (Nat.le_of_ble_eq_true rfl) dX6_read_109 (fun r20 u19 => ?_)
                refine g_aload_n C 112 0 dX6_read_112 rfl ?_
                refine gfX_X6_sheets C 113 iX6 (List.mem_cons_of_mem _ (List.mem_append_right _ wgL_2_15.1)) dX6_read_113 ?_
                refine g_iload_n C 116 1 dX6_read_116 rfl ?_
                refine g_iload_n C 117 2 dX6_read_117 rfl ?_
                refine g_iconst C 118 2 dX6_read_118 rfl ?_
                refine g_iload C 119 6 dX6_read_119 rfl ?_
                refine g_imul C 121 dX6_read_121 ?_
                refine g_iadd C 122 dX6_read_122 ?_
                refine g_iconst C 123 1 dX6_read_123 rfl ?_
                refine g_iadd C 124 dX6_read_124 ?_
                refine g_callVi (st := [.int r20, .ref (ad 0)]) (As := [.int p1, .int ((p3 + (2 * x16)) + 1)]) C EX_ok EX_vm 125 9 2 (tX4_cell F p1 ((p3 + (2 * x16)) + 1) u19) rfl gX6_read_X4_cell rfl rfl rfl (by decide +kernel) ⟨Nat.le_of_ble_eq_true rfl, Nat.le_of_ble_eq_true rfl⟩ rfl rfl rfl (Nat.le_of_ble_eq_true rfl) dX6_read_125 (fun r22 u21 => ?_)
                refine g_callVi (st := []) (As := [.int r20, .int r22]) C EX_ok EX_vm 128 0 2 (tX6_hearForGood F r20 r22 u21) rfl gX6_read_X6_hearForGood rfl rfl rfl (by decide +kernel) ⟨Nat.le_of_ble_eq_true rfl, Nat.le_of_ble_eq_true rfl⟩ rfl rfl rfl (Nat.le_of_ble_eq_true rfl) dX6_read_128 (fun r24 u23 => ?_)
                refine g_pop C 131 dX6_read_131 rfl ?_
                refine g_iinc C 132 6 [(8, .int (x16 + 1)), (0, .ref (ad 0)), (1, .int p1), (3, .int p3), (4, .int p4), (5, .int a5), (6, .int a7)] dX6_read_132 rfl rfl (by decide) rfl ?_
                refine g_goto C 135 90 dX6_read_135 (by decide) ?_
                exact g_sub _ [1, 2, 3, 4, 5, 6, 0] rfl (hself18 (x16 + 1) u23)
          · skip
            refine g_bipush C 81 (-20) dX6_read_81 rfl ?_
            refine g_iload C 83 0 dX6_read_83 rfl ?_
            refine g_isub C 85 dX6_read_85 ?_
            exact g_iret C 86 dX6_read_86
        · skip
          refine g_if_ne C 44 61 dX6_read_44 (by decide) ?_ ?_
          · skip
            refine g_iconst C 61 0 dX6_read_61 rfl ?_
            exact g_sub _ [1, 2, 3, 4, 0] rfl (hJ62 0 u6)
          · skip
            refine g_aload_n C 47 1 dX6_read_47 rfl ?_
            refine gfX_X6_sheets C 48 iX6 (List.mem_cons_of_mem _ (List.mem_append_right _ wgL_2_15.1)) dX6_read_48 ?_
            refine g_iload_n C 51 2 dX6_read_51 rfl ?_
            refine g_iload_n C 52 3 dX6_read_52 rfl ?_
            refine g_iload C 53 4 dX6_read_53 rfl ?_
            refine g_callVi (st := []) (As := [.int p1, .int p3, .int p4]) C EX_ok EX_vm 55 9 3 (tX4_wholePairs F p1 p3 p4 u6) rfl gX6_read_X4_wholePairs rfl rfl rfl (by decide +kernel) ⟨Nat.le_of_ble_eq_true rfl, Nat.le_of_ble_eq_true rfl⟩ rfl rfl rfl (Nat.le_of_ble_eq_true rfl) dX6_read_55 (fun r26 u25 => ?_)
            refine g_goto C 58 62 dX6_read_58 (by decide) ?_
            exact g_sub _ [1, 2, 3, 4, 0] rfl (hJ62 r26 u25)
      · skip
        refine g_if_ne C 24 31 dX6_read_24 (by decide) ?_ ?_
        · skip
          refine g_aload_n C 31 0 dX6_read_31 rfl ?_
          refine gfX_X6_sheets C 32 iX6 (List.mem_cons_of_mem _ (List.mem_append_right _ wgL_2_15.1)) dX6_read_32 ?_
          refine g_iload_n C 35 1 dX6_read_35 rfl ?_
          refine g_iload_n C 36 2 dX6_read_36 rfl ?_
          refine g_callVi (st := []) (As := [.int p1, .int p2]) C EX_ok EX_vm 37 9 2 (tX4_faultAs F p1 p2 u3) rfl gX6_read_X4_faultAs rfl rfl rfl (by decide +kernel) ⟨Nat.le_of_ble_eq_true rfl, Nat.le_of_ble_eq_true rfl⟩ rfl rfl rfl (Nat.le_of_ble_eq_true rfl) dX6_read_37 (fun r28 u27 => ?_)
          exact g_sub _ [0, 1, 3, 4] rfl (hJ40 r28 u27)
        · skip
          refine g_iconst C 27 0 dX6_read_27 rfl ?_
          refine g_goto C 28 40 dX6_read_28 (by decide) ?_
          exact g_sub _ [0, 1, 3, 4] rfl (hJ40 0 u3)
    · skip
      refine g_iconst C 20 (-1) dX6_read_20 rfl ?_
      exact g_iret C 21 dX6_read_21
def pX6_torn (F : Nat)  (u : St) : Option (Int32 × St) :=
  some ((u.1 16), u)
set_option maxRecDepth 100000 in
set_option maxHeartbeats 4000000 in
theorem tX6_torn {l : Launch} {D : va_G} {cI cZ : ClassId} {ad : Nat → Nat} {tBURNS tFLAME_BOUNDS : Nat} {tS : Option Nat} {adK adV : Nat → Nat} (F : Nat)  (u : St) : CtI l D [(cI, .int), (cZ, .boolean)] (wX ad cI cZ) (EX tBURNS tFLAME_BOUNDS tS adK adV) yX6_torn wsX6_torn ({ frames := 0, cells := 0, slots := 0, locals := 0 } : Room) [.ref (ad 0)] u (pX6_torn F u) := by
  refine ctI_of (own := RX6) (cc := cX6_torn) (n := 1) (ret := (some .int)) (by decide) rfl rfl (Nat.le_of_ble_eq_true rfl) (lv := [(0, .ref (ad 0))]) rfl (fun C => ?_)
  have iX6 : ∀ w ∈ wsX60, w ∈ wsX6_torn := fun w h => List.mem_cons_of_mem _ (List.mem_append_right _ (inlX6 w h))
  rw [pX6_torn]
  refine g_aload_n C 0 0 dX6_torn_0 rfl ?_
  refine gfX_X6_lastTorn C 1 iX6 (List.mem_cons_of_mem _ (List.mem_append_right _ wgL_2_19.1)) dX6_torn_1 ?_
  exact g_iret C 4 dX6_torn_4
def pX6_count (F : Nat) (p1 : Int32) (u : St) : Option (Int32 × St) :=
  if p1 = 0 then some ((u.1 29), u) else if p1 = 1 then gd (inb 0 2) (jn (fun (a1 : Int32) (u2 : St) => gd (inb 1 2) (if (u2.2 66 (Int32.toNatClampNeg 1)) = 0 then some ((a1 + 0), u2) else some ((a1 + 1), u2))) (fun (J62 : Int32 → St → Option (Int32 × St)) => if (u.2 66 (Int32.toNatClampNeg 0)) = 0 then (J62 0 u) else (J62 1 u))) else if p1 = 2 then some ((u.1 17), u) else if p1 = 3 then bd (pX4_isNothing F 0 u) (fun (r4 : Int32) (u3 : St) => if r4 = 0 then gd (inb 0 4) (some ((u3.2 65 (Int32.toNatClampNeg 0)), u3)) else some ((-4), u3)) else if p1 = 4 then bd (pX0_sumOf F 0 2 u) (fun (r6 : Int32) (u5 : St) => some (r6, u5)) else if p1 = 5 then bd (pX6_bitsOf F 4 (u.1 0) 1 u) (fun (r8 : Int32) (u7 : St) => bd (pJ6_bitCount_0f7a4 F r8 u7) (fun (r10 : Int32) (u9 : St) => some (r10, u9))) else some ((-1), u)
set_option maxRecDepth 100000 in
set_option maxHeartbeats 4000000 in
theorem tX6_count {l : Launch} {D : va_G} {cI cZ : ClassId} {ad : Nat → Nat} {tBURNS tFLAME_BOUNDS : Nat} {tS : Option Nat} {adK adV : Nat → Nat} (F : Nat) (p1 : Int32) (u : St) : CtI l D [(cI, .int), (cZ, .boolean)] (wX ad cI cZ) (EX tBURNS tFLAME_BOUNDS tS adK adV) yX6_count wsX6_count ({ frames := 1, cells := 0, slots := 0, locals := 24 } : Room) [.ref (ad 0), .int p1] u (pX6_count F p1 u) := by
  refine ctI_of (own := RX6) (cc := cX6_count) (n := 2) (ret := (some .int)) (by decide) rfl rfl (Nat.le_of_ble_eq_true rfl) (lv := [(0, .ref (ad 0)), (1, .int p1)]) rfl (fun C => ?_)
  have iX0 : ∀ w ∈ wsX00, w ∈ wsX6_count := fun w h => List.mem_cons_of_mem _ (List.mem_append_right _ (inlX0 w h))
  have iX1 : ∀ w ∈ wsX10, w ∈ wsX6_count := fun w h => List.mem_cons_of_mem _ (List.mem_append_right _ (inlX1 w h))
  have iX2 : ∀ w ∈ wsX20, w ∈ wsX6_count := fun w h => List.mem_cons_of_mem _ (List.mem_append_right _ (inlX2 w h))
  have iX4 : ∀ w ∈ wsX40, w ∈ wsX6_count := fun w h => List.mem_cons_of_mem _ (List.mem_append_right _ (inlX4 w h))
  have iX6 : ∀ w ∈ wsX60, w ∈ wsX6_count := fun w h => List.mem_cons_of_mem _ (List.mem_append_right _ (inlX6 w h))
  rw [pX6_count]
  refine g_iload_n C 0 1 dX6_count_0 rfl ?_
  refine g_tsw C 1 40 0 dX6_count_1 (by decide) rfl (by decide) ?_ (fun q0 => ?_)
  · skip
    refine g_aload_n C 40 0 dX6_count_40 rfl ?_
    refine gfX_X6_memory C 41 iX6 (List.mem_cons_of_mem _ (List.mem_append_right _ wgL_2_11.1)) dX6_count_41 ?_
    refine gfX_X1_size C 44 iX1 (List.mem_cons_of_mem _ (List.mem_append_right _ wgL_7_14.1)) dX6_count_44 ?_
    exact g_iret C 47 dX6_count_47
  refine g_tsw C 1 48 1 dX6_count_1 (by decide) rfl (by decide) ?_ (fun q1 => ?_)
  · skip
    refine g_aload_n C 48 0 dX6_count_48 rfl ?_
    refine gfX_X6_kept C 49 iX6 (List.mem_cons_of_mem _ (List.mem_append_right _ wgL_1_19.1)) dX6_count_49 ?_
    refine g_iconst C 52 0 dX6_count_52 rfl ?_
    refine g_zald C 53 (10 + 66) 1 (wX_arrz 66 (by decide) (by decide)) rfl dX6_count_53 ?_
    refine g_jn1 62 (fun (a1 : Int32) => [(0, .ref (ad 0))]) (fun (a1 : Int32) => [.int a1]) (fun a1 u2 => ?_) (fun J62 hJ62 => ?_)
    · skip
      refine g_aload_n C 62 0 dX6_count_62 rfl ?_
      refine gfX_X6_kept C 63 iX6 (List.mem_cons_of_mem _ (List.mem_append_right _ wgL_1_19.1)) dX6_count_63 ?_
      refine g_iconst C 66 1 dX6_count_66 rfl ?_
      refine g_zald C 67 (10 + 66) 1 (wX_arrz 66 (by decide) (by decide)) rfl dX6_count_67 ?_
      refine g_if_eq C 68 75 dX6_count_68 (by decide) ?_ ?_
      · skip
        refine g_iconst C 75 0 dX6_count_75 rfl ?_
        refine g_iadd C 76 dX6_count_76 ?_
        exact g_iret C 77 dX6_count_77
      · skip
        refine g_iconst C 71 1 dX6_count_71 rfl ?_
        refine g_goto C 72 76 dX6_count_72 (by decide) ?_
        refine g_iadd C 76 dX6_count_76 ?_
        exact g_iret C 77 dX6_count_77
    · skip
      refine g_if_eq C 54 61 dX6_count_54 (by decide) ?_ ?_
      · skip
        refine g_iconst C 61 0 dX6_count_61 rfl ?_
        exact g_sub _ [0] rfl (hJ62 0 u)
      · skip
        refine g_iconst C 57 1 dX6_count_57 rfl ?_
        refine g_goto C 58 62 dX6_count_58 (by decide) ?_
        exact g_sub _ [0] rfl (hJ62 1 u)
  refine g_tsw C 1 78 2 dX6_count_1 (by decide) rfl (by decide) ?_ (fun q2 => ?_)
  · skip
    refine g_aload_n C 78 0 dX6_count_78 rfl ?_
    refine gfX_X6_reader C 79 iX6 (List.mem_cons_of_mem _ (List.mem_append_right _ wgL_1_23.1)) dX6_count_79 ?_
    refine gfX_X2_size C 82 iX2 (List.mem_cons_of_mem _ (List.mem_append_right _ wgL_6_7.1)) dX6_count_82 ?_
    exact g_iret C 85 dX6_count_85
  refine g_tsw C 1 86 3 dX6_count_1 (by decide) rfl (by decide) ?_ (fun q3 => ?_)
  · skip
    refine g_aload_n C 86 0 dX6_count_86 rfl ?_
    refine gfX_X6_sheets C 87 iX6 (List.mem_cons_of_mem _ (List.mem_append_right _ wgL_2_15.1)) dX6_count_87 ?_
    refine g_iconst C 90 0 dX6_count_90 rfl ?_
    refine g_callVi (st := []) (As := [.int 0]) C EX_ok EX_vm 91 9 1 (tX4_isNothing F 0 u) rfl gX6_count_X4_isNothing rfl rfl rfl (by decide +kernel) ⟨Nat.le_of_ble_eq_true rfl, Nat.le_of_ble_eq_true rfl⟩ rfl rfl rfl (Nat.le_of_ble_eq_true rfl) dX6_count_91 (fun r4 u3 => ?_)
    refine g_if_eq C 94 102 dX6_count_94 (by decide) ?_ ?_
    · skip
      refine g_aload_n C 102 0 dX6_count_102 rfl ?_
      refine gfX_X6_sheets C 103 iX6 (List.mem_cons_of_mem _ (List.mem_append_right _ wgL_2_15.1)) dX6_count_103 ?_
      refine gfX_X4_size C 106 iX4 (List.mem_cons_of_mem _ (List.mem_append_right _ wgL_46_13.1)) dX6_count_106 ?_
      refine g_iconst C 109 0 dX6_count_109 rfl ?_
      refine g_iald C 110 (10 + 65) 0 (wX_arr 65 (by decide)) rfl dX6_count_110 ?_
      exact g_iret C 111 dX6_count_111
    · skip
      refine g_bipush C 97 (-4) dX6_count_97 rfl ?_
      refine g_goto C 99 111 dX6_count_99 (by decide) ?_
      exact g_iret C 111 dX6_count_111
  refine g_tsw C 1 112 4 dX6_count_1 (by decide) rfl (by decide) ?_ (fun q4 => ?_)
  · skip
    refine g_aload_n C 112 0 dX6_count_112 rfl ?_
    refine gfX_X6_court C 113 iX6 (List.mem_cons_of_mem _ (List.mem_append_right _ wgL_1_15.1)) dX6_count_113 ?_
    refine g_aload_n C 116 0 dX6_count_116 rfl ?_
    refine gfX_X6_court C 117 iX6 (List.mem_cons_of_mem _ (List.mem_append_right _ wgL_1_15.1)) dX6_count_117 ?_
    refine gfX_X0_guard 0 (by decide) C 120 iX0 (List.mem_cons_of_mem _ (List.mem_append_right _ wgL_19_11.1)) dX6_count_120 ?_
    refine g_callVi (st := []) (As := [.ref (ad (10 + 2))]) C EX_ok EX_vm 123 1 1 (tX0_sumOf F 0 (by decide) 2 (by decide) u) rfl gX6_count_X0_sumOf rfl rfl rfl (by decide +kernel) ⟨Nat.le_of_ble_eq_true rfl, Nat.le_of_ble_eq_true rfl⟩ (wX_X0 ad cI cZ _ 0 (by decide)) rfl rfl (Nat.le_of_ble_eq_true rfl) dX6_count_123 (fun r6 u5 => ?_)
    exact g_iret C 126 dX6_count_126
  refine g_tsw C 1 127 5 dX6_count_1 (by decide) rfl (by decide) ?_ (fun q5 => ?_)
  · skip
    refine g_aload_n C 127 0 dX6_count_127 rfl ?_
    refine gfX_X6_court C 128 iX6 (List.mem_cons_of_mem _ (List.mem_append_right _ wgL_1_15.1)) dX6_count_128 ?_
    refine gfX_X0_appealed 0 (by decide) C 131 iX0 (List.mem_cons_of_mem _ (List.mem_append_right _ wgL_20_12.1)) dX6_count_131 ?_
    refine g_aload_n C 134 0 dX6_count_134 rfl ?_
    refine gfX_X6_court C 135 iX6 (List.mem_cons_of_mem _ (List.mem_append_right _ wgL_1_15.1)) dX6_count_135 ?_
    refine gfX_X0_cases 0 (by decide) C 138 iX0 (List.mem_cons_of_mem _ (List.mem_append_right _ wgL_18_5.1)) dX6_count_138 ?_
    refine g_iconst C 141 1 dX6_count_141 rfl ?_
    refine g_callSi (st := []) (As := [.ref (ad (10 + 4)), .int (u.1 0), .int 1]) C EX_ok EX_vm 142 3 (tX6_bitsOf F 4 (by decide) (u.1 0) 1 u) rfl gX6_count_X6_bitsOf rfl rfl rfl (by decide +kernel) ⟨Nat.le_of_ble_eq_true rfl, Nat.le_of_ble_eq_true rfl⟩ rfl (Nat.le_of_ble_eq_true rfl) dX6_count_142 (fun r8 u7 => ?_)
    refine g_callSi (st := []) (As := [.int r8]) C EX_ok EX_vm 145 1 (tJ6_bitCount_0f7a4 F r8 u7) rfl gX6_count_J6_bitCount_0f7a4 rfl rfl rfl (by decide +kernel) ⟨Nat.le_of_ble_eq_true rfl, Nat.le_of_ble_eq_true rfl⟩ rfl (Nat.le_of_ble_eq_true rfl) dX6_count_145 (fun r10 u9 => ?_)
    exact g_iret C 148 dX6_count_148
  refine g_tswD C 1 149 dX6_count_1 (by have r0 := lv_neT (a := 0) q0 rfl; have r1 := lv_neT (a := 1) q1 rfl; have r2 := lv_neT (a := 2) q2 rfl; have r3 := lv_neT (a := 3) q3 rfl; have r4 := lv_neT (a := 4) q4 rfl; have r5 := lv_neT (a := 5) q5 rfl; omega) (by decide) ?_
  refine g_iconst C 149 (-1) dX6_count_149 rfl ?_
  exact g_iret C 150 dX6_count_150
end
