def pX6_keep (F : Nat) (p1 : Int32) (u : St) : Option (Int32 × St) :=
  bd (pX6_isIn F (Int32.toInt64 p1) 0 1 u) (fun (r2 : Int32) (u1 : St) => if r2 = 0 then some ((-1), u1) else gd (inb p1 2) (jn (fun (a3 : Int32) (u4 : St) => bd (pX6_imageOf F p1 u4) (fun (r6 : Nat) (u5 : St) => gd (decide (r6 < 4)) (bd (pX0_becomes F r6 0 u5) (fun (_ : Unit) (u7 : St) => gd (inb p1 2) (vl (stz u7 66 p1 1) (fun (u8 : St) => some (a3, u8))))))) (fun (J26 : Int32 → St → Option (Int32 × St)) => if (u1.2 66 (Int32.toNatClampNeg p1)) = 0 then (J26 0 u1) else (J26 1 u1))))
set_option maxRecDepth 100000 in
set_option maxHeartbeats 4000000 in
theorem tX6_keep {l : Launch} {D : va_G} {cI cZ : ClassId} {ad : Nat → Nat} {tBURNS tFLAME_BOUNDS : Nat} {tS : Option Nat} {adK adV : Nat → Nat} (F : Nat) (p1 : Int32) (u : St) : CtI l D [(cI, .int), (cZ, .boolean)] (wX ad cI cZ) (EX tBURNS tFLAME_BOUNDS tS adK adV) yX6_keep wsX6_keep ({ frames := 3, cells := 0, slots := 0, locals := 60 } : Room) [.ref (ad 0), .int p1] u (pX6_keep F p1 u) := by
  refine ctI_of (own := RX6) (cc := cX6_keep) (n := 3) (ret := (some .int)) (by decide) rfl rfl (Nat.le_of_ble_eq_true rfl) (lv := [(0, .ref (ad 0)), (1, .int p1)]) rfl (fun C => ?_)
  have iX6 : ∀ w ∈ wsX60, w ∈ wsX6_keep := fun w h => List.mem_cons_of_mem _ (List.mem_append_right _ (inlX6 w h))
  rw [pX6_keep]
  refine g_iload_n C 0 1 dX6_keep_0 rfl ?_
  refine g_i2l C 1 dX6_keep_1 ?_
  refine g_iconst C 2 0 dX6_keep_2 rfl ?_
  refine g_iconst C 3 1 dX6_keep_3 rfl ?_
  refine g_callSi (st := []) (As := [.long (Int32.toInt64 p1), .int 0, .int 1]) C EX_ok EX_vm 4 3 (tX6_isIn F (Int32.toInt64 p1) 0 1 u) rfl gX6_keep_X6_isIn rfl rfl rfl (by decide +kernel) ⟨Nat.le_of_ble_eq_true rfl, Nat.le_of_ble_eq_true rfl⟩ rfl (Nat.le_of_ble_eq_true rfl) dX6_keep_4 (fun r2 u1 => ?_)
  refine g_if_ne C 7 12 dX6_keep_7 (by decide) ?_ ?_
  · skip
    refine g_aload_n C 12 0 dX6_keep_12 rfl ?_
    refine gfX_X6_kept C 13 iX6 (List.mem_cons_of_mem _ (List.mem_append_right _ wgL_1_19.1)) dX6_keep_13 ?_
    refine g_iload_n C 16 1 dX6_keep_16 rfl ?_
    refine g_zald C 17 (10 + 66) 1 (wX_arrz 66 (by decide) (by decide)) rfl dX6_keep_17 ?_
    refine g_jn1 26 (fun (a3 : Int32) => [(0, .ref (ad 0)), (1, .int p1)]) (fun (a3 : Int32) => [.int a3]) (fun a3 u4 => ?_) (fun J26 hJ26 => ?_)
    · skip
      refine g_istore_n C 26 [(2, .int a3), (0, .ref (ad 0)), (1, .int p1)] dX6_keep_26 (by decide) rfl ?_
      refine g_aload_n C 27 1 dX6_keep_27 rfl ?_
      refine g_iload_n C 28 2 dX6_keep_28 rfl ?_
      refine g_callVr (fun r => ad (1 + r)) (st := []) (As := [.int p1]) C EX_ok EX_vm 29 0 1 4 (tX6_imageOf F p1 u4) rfl gX6_keep_X6_imageOf rfl rfl rfl (by decide +kernel) ⟨Nat.le_of_ble_eq_true rfl, Nat.le_of_ble_eq_true rfl⟩ rfl rfl rfl (Nat.le_of_ble_eq_true rfl) dX6_keep_29 (fun r6 u5 hr6 => ?_)
      refine g_aload_n C 32 1 dX6_keep_32 rfl ?_
      refine gfX_X6_court C 33 iX6 (List.mem_cons_of_mem _ (List.mem_append_right _ wgL_1_15.1)) dX6_keep_33 ?_
      refine g_callVv (st := []) (As := [.ref (ad 1)]) C EX_ok EX_vm 36 (1 + r6) 1 (tX0_becomes F r6 hr6 0 (by decide) u5) rfl gX6_keep_X0_becomes rfl rfl rfl (by decide +kernel) ⟨Nat.le_of_ble_eq_true rfl, Nat.le_of_ble_eq_true rfl⟩ (wX_X0 ad cI cZ _ r6 hr6) rfl rfl (Nat.le_of_ble_eq_true rfl) dX6_keep_36 (fun u7 => ?_)
      refine g_aload_n C 39 1 dX6_keep_39 rfl ?_
      refine gfX_X6_kept C 40 iX6 (List.mem_cons_of_mem _ (List.mem_append_right _ wgL_1_19.1)) dX6_keep_40 ?_
      refine g_iload_n C 43 2 dX6_keep_43 rfl ?_
      refine g_iconst C 44 1 dX6_keep_44 rfl ?_
      refine g_zast C 45 (10 + 66) 1 66 (wX_arrz 66 (by decide) (by decide)) (wX_asetz 66 (by decide) (by decide)) rfl dX6_keep_45 (fun u8 => ?_)
      refine g_iload_n C 46 0 dX6_keep_46 rfl ?_
      exact g_iret C 47 dX6_keep_47
    · skip
      refine g_if_eq C 18 25 dX6_keep_18 (by decide) ?_ ?_
      · skip
        refine g_iconst C 25 0 dX6_keep_25 rfl ?_
        exact g_sub _ [0, 1] rfl (hJ26 0 u1)
      · skip
        refine g_iconst C 21 1 dX6_keep_21 rfl ?_
        refine g_goto C 22 26 dX6_keep_22 (by decide) ?_
        exact g_sub _ [0, 1] rfl (hJ26 1 u1)
  · skip
    refine g_iconst C 10 (-1) dX6_keep_10 rfl ?_
    exact g_iret C 11 dX6_keep_11
def pX6_back (F : Nat) (p1 : Int32) (u : St) : Option (Int32 × St) :=
  bd (pX6_isIn F (Int32.toInt64 p1) 0 1 u) (fun (r2 : Int32) (u1 : St) => if r2 = 0 then some ((-1), u1) else gd (inb p1 2) (if (u1.2 66 (Int32.toNatClampNeg p1)) = 0 then some ((-2), u1) else bd (pX6_imageOf F p1 u1) (fun (r4 : Nat) (u3 : St) => gd (decide (r4 < 4)) (bd (pX0_becomes F 0 r4 u3) (fun (_ : Unit) (u5 : St) => bd (pX0_sumOf F 0 1 u5) (fun (r7 : Int32) (u6 : St) => some (r7, u6)))))))
set_option maxRecDepth 100000 in
set_option maxHeartbeats 4000000 in
theorem tX6_back {l : Launch} {D : va_G} {cI cZ : ClassId} {ad : Nat → Nat} {tBURNS tFLAME_BOUNDS : Nat} {tS : Option Nat} {adK adV : Nat → Nat} (F : Nat) (p1 : Int32) (u : St) : CtI l D [(cI, .int), (cZ, .boolean)] (wX ad cI cZ) (EX tBURNS tFLAME_BOUNDS tS adK adV) yX6_back wsX6_back ({ frames := 3, cells := 0, slots := 0, locals := 60 } : Room) [.ref (ad 0), .int p1] u (pX6_back F p1 u) := by
  refine ctI_of (own := RX6) (cc := cX6_back) (n := 2) (ret := (some .int)) (by decide) rfl rfl (Nat.le_of_ble_eq_true rfl) (lv := [(0, .ref (ad 0)), (1, .int p1)]) rfl (fun C => ?_)
  have iX0 : ∀ w ∈ wsX00, w ∈ wsX6_back := fun w h => List.mem_cons_of_mem _ (List.mem_append_right _ (inlX0 w h))
  have iX6 : ∀ w ∈ wsX60, w ∈ wsX6_back := fun w h => List.mem_cons_of_mem _ (List.mem_append_right _ (inlX6 w h))
  rw [pX6_back]
  refine g_iload_n C 0 1 dX6_back_0 rfl ?_
  refine g_i2l C 1 dX6_back_1 ?_
  refine g_iconst C 2 0 dX6_back_2 rfl ?_
  refine g_iconst C 3 1 dX6_back_3 rfl ?_
  refine g_callSi (st := []) (As := [.long (Int32.toInt64 p1), .int 0, .int 1]) C EX_ok EX_vm 4 3 (tX6_isIn F (Int32.toInt64 p1) 0 1 u) rfl gX6_back_X6_isIn rfl rfl rfl (by decide +kernel) ⟨Nat.le_of_ble_eq_true rfl, Nat.le_of_ble_eq_true rfl⟩ rfl (Nat.le_of_ble_eq_true rfl) dX6_back_4 (fun r2 u1 => ?_)
  refine g_if_ne C 7 12 dX6_back_7 (by decide) ?_ ?_
  · skip
    refine g_aload_n C 12 0 dX6_back_12 rfl ?_
    refine gfX_X6_kept C 13 iX6 (List.mem_cons_of_mem _ (List.mem_append_right _ wgL_1_19.1)) dX6_back_13 ?_
    refine g_iload_n C 16 1 dX6_back_16 rfl ?_
    refine g_zald C 17 (10 + 66) 1 (wX_arrz 66 (by decide) (by decide)) rfl dX6_back_17 ?_
    refine g_if_ne C 18 24 dX6_back_18 (by decide) ?_ ?_
    · skip
      refine g_aload_n C 24 0 dX6_back_24 rfl ?_
      refine gfX_X6_court C 25 iX6 (List.mem_cons_of_mem _ (List.mem_append_right _ wgL_1_15.1)) dX6_back_25 ?_
      refine g_aload_n C 28 0 dX6_back_28 rfl ?_
      refine g_iload_n C 29 1 dX6_back_29 rfl ?_
      refine g_callVr (fun r => ad (1 + r)) (st := [.ref (ad 1)]) (As := [.int p1]) C EX_ok EX_vm 30 0 1 4 (tX6_imageOf F p1 u1) rfl gX6_back_X6_imageOf rfl rfl rfl (by decide +kernel) ⟨Nat.le_of_ble_eq_true rfl, Nat.le_of_ble_eq_true rfl⟩ rfl rfl rfl (Nat.le_of_ble_eq_true rfl) dX6_back_30 (fun r4 u3 hr4 => ?_)
      refine g_callVv (st := []) (As := [.ref (ad (1 + r4))]) C EX_ok EX_vm 33 1 1 (tX0_becomes F 0 (by decide) r4 hr4 u3) rfl gX6_back_X0_becomes rfl rfl rfl (by decide +kernel) ⟨Nat.le_of_ble_eq_true rfl, Nat.le_of_ble_eq_true rfl⟩ (wX_X0 ad cI cZ _ 0 (by decide)) rfl rfl (Nat.le_of_ble_eq_true rfl) dX6_back_33 (fun u5 => ?_)
      refine g_aload_n C 36 0 dX6_back_36 rfl ?_
      refine gfX_X6_court C 37 iX6 (List.mem_cons_of_mem _ (List.mem_append_right _ wgL_1_15.1)) dX6_back_37 ?_
      refine g_aload_n C 40 0 dX6_back_40 rfl ?_
      refine gfX_X6_court C 41 iX6 (List.mem_cons_of_mem _ (List.mem_append_right _ wgL_1_15.1)) dX6_back_41 ?_
      refine gfX_X0_length 0 (by decide) C 44 iX0 (List.mem_cons_of_mem _ (List.mem_append_right _ wgL_18_10.1)) dX6_back_44 ?_
      refine g_callVi (st := []) (As := [.ref (ad (10 + 1))]) C EX_ok EX_vm 47 1 1 (tX0_sumOf F 0 (by decide) 1 (by decide) u5) rfl gX6_back_X0_sumOf rfl rfl rfl (by decide +kernel) ⟨Nat.le_of_ble_eq_true rfl, Nat.le_of_ble_eq_true rfl⟩ (wX_X0 ad cI cZ _ 0 (by decide)) rfl rfl (Nat.le_of_ble_eq_true rfl) dX6_back_47 (fun r7 u6 => ?_)
      exact g_iret C 50 dX6_back_50
    · skip
      refine g_bipush C 21 (-2) dX6_back_21 rfl ?_
      exact g_iret C 23 dX6_back_23
  · skip
    refine g_iconst C 10 (-1) dX6_back_10 rfl ?_
    exact g_iret C 11 dX6_back_11
def pX6_isSheet (F : Nat) (p1 : Int32) (p2 : Int32) (u : St) : Option (Int32 × St) :=
  bd (pX6_isIn F (Int32.toInt64 p1) 0 3 u) (fun (r2 : Int32) (u1 : St) => if r2 = 0 then some (0, u1) else bd (pX6_isIn F (Int32.toInt64 p2) 0 2 u1) (fun (r4 : Int32) (u3 : St) => if r4 = 0 then some (0, u3) else some (1, u3)))
set_option maxRecDepth 100000 in
set_option maxHeartbeats 4000000 in
theorem tX6_isSheet {l : Launch} {D : va_G} {cI cZ : ClassId} {ad : Nat → Nat} {tBURNS tFLAME_BOUNDS : Nat} {tS : Option Nat} {adK adV : Nat → Nat} (F : Nat) (p1 : Int32) (p2 : Int32) (u : St) : CtI l D [(cI, .int), (cZ, .boolean)] (wX ad cI cZ) (EX tBURNS tFLAME_BOUNDS tS adK adV) yX6_isSheet wsX6_isSheet ({ frames := 1, cells := 0, slots := 0, locals := 23 } : Room) [.int p1, .int p2] u (pX6_isSheet F p1 p2 u) := by
  refine ctI_of (own := RX6) (cc := cX6_isSheet) (n := 2) (ret := (some .boolean)) (by decide) rfl rfl (Nat.le_of_ble_eq_true rfl) (lv := [(0, .int p1), (1, .int p2)]) rfl (fun C => ?_)
  rw [pX6_isSheet]
  refine g_iload_n C 0 0 dX6_isSheet_0 rfl ?_
  refine g_i2l C 1 dX6_isSheet_1 ?_
  refine g_iconst C 2 0 dX6_isSheet_2 rfl ?_
  refine g_iconst C 3 3 dX6_isSheet_3 rfl ?_
  refine g_callSi (st := []) (As := [.long (Int32.toInt64 p1), .int 0, .int 3]) C EX_ok EX_vm 4 3 (tX6_isIn F (Int32.toInt64 p1) 0 3 u) rfl gX6_isSheet_X6_isIn rfl rfl rfl (by decide +kernel) ⟨Nat.le_of_ble_eq_true rfl, Nat.le_of_ble_eq_true rfl⟩ rfl (Nat.le_of_ble_eq_true rfl) dX6_isSheet_4 (fun r2 u1 => ?_)
  refine g_if_eq C 7 24 dX6_isSheet_7 (by decide) ?_ ?_
  · skip
    refine g_iconst C 24 0 dX6_isSheet_24 rfl ?_
    exact g_nret C 25 rfl dX6_isSheet_25
  · skip
    refine g_iload_n C 10 1 dX6_isSheet_10 rfl ?_
    refine g_i2l C 11 dX6_isSheet_11 ?_
    refine g_iconst C 12 0 dX6_isSheet_12 rfl ?_
    refine g_iconst C 13 2 dX6_isSheet_13 rfl ?_
    refine g_callSi (st := []) (As := [.long (Int32.toInt64 p2), .int 0, .int 2]) C EX_ok EX_vm 14 3 (tX6_isIn F (Int32.toInt64 p2) 0 2 u1) rfl gX6_isSheet_X6_isIn rfl rfl rfl (by decide +kernel) ⟨Nat.le_of_ble_eq_true rfl, Nat.le_of_ble_eq_true rfl⟩ rfl (Nat.le_of_ble_eq_true rfl) dX6_isSheet_14 (fun r4 u3 => ?_)
    refine g_if_eq C 17 24 dX6_isSheet_17 (by decide) ?_ ?_
    · skip
      refine g_iconst C 24 0 dX6_isSheet_24 rfl ?_
      exact g_nret C 25 rfl dX6_isSheet_25
    · skip
      refine g_iconst C 20 1 dX6_isSheet_20 rfl ?_
      refine g_goto C 21 25 dX6_isSheet_21 (by decide) ?_
      exact g_nret C 25 rfl dX6_isSheet_25
def bX4_renew_17 (F : Nat) (p1 : Int32) (p3 : Int32) (self5 : Int32 → St → Option (Unit × St)) (x3 : Int32) (u4 : St) : Option (Unit × St) :=
  if p3 ≤ x3 then some ((), u4) else gd (inb ((p1 * 40) + x3) 160) (vl (sta u4 63 ((p1 * 40) + x3) 0) (fun (u6 : St) => (self5 (x3 + 1) u6)))
def pX4_renew (F : Nat) (p1 : Int32) (p2 : Int32) (p3 : Int32) (u : St) : Option (Unit × St) :=
  gd (inb p1 4) (vl (sta u 64 p1 p2) (fun (u1 : St) => gd (inb p1 4) (vl (sta u1 65 p1 p3) (fun (u2 : St) => (lq1 (bX4_renew_17 F p1 p3) F 0 u2)))))
set_option maxRecDepth 100000 in
set_option maxHeartbeats 4000000 in
theorem tX4_renew {l : Launch} {D : va_G} {cI cZ : ClassId} {ad : Nat → Nat} {tBURNS tFLAME_BOUNDS : Nat} {tS : Option Nat} {adK adV : Nat → Nat} (F : Nat) (p1 : Int32) (p2 : Int32) (p3 : Int32) (u : St) : CtV l D [(cI, .int), (cZ, .boolean)] (wX ad cI cZ) (EX tBURNS tFLAME_BOUNDS tS adK adV) yX4_renew wsX4_renew ({ frames := 0, cells := 0, slots := 0, locals := 0 } : Room) [.ref (ad 9), .int p1, .int p2, .int p3] u (pX4_renew F p1 p2 p3 u) := by
  refine ctV_of (own := RX4) (cc := cX4_renew) (n := 5) (ret := none) (by decide) rfl rfl (Nat.le_of_ble_eq_true rfl) (lv := [(0, .ref (ad 9)), (1, .int p1), (2, .int p2), (3, .int p3)]) rfl (fun C => ?_)
  have iX4 : ∀ w ∈ wsX40, w ∈ wsX4_renew := fun w h => List.mem_cons_of_mem _ (List.mem_append_right _ (inlX4 w h))
  rw [pX4_renew]
  refine g_aload_n C 0 0 dX4_renew_0 rfl ?_
  refine gfX_X4_lane C 1 iX4 (List.mem_cons_of_mem _ (List.mem_append_right _ wgL_5_8.1)) dX4_renew_1 ?_
  refine g_iload_n C 4 1 dX4_renew_4 rfl ?_
  refine g_iload_n C 5 2 dX4_renew_5 rfl ?_
  refine g_iast C 6 (10 + 64) 0 64 (wX_arr 64 (by decide)) (wX_aset 64 (by decide)) rfl dX4_renew_6 (fun u1 => ?_)
  refine g_aload_n C 7 0 dX4_renew_7 rfl ?_
  refine gfX_X4_size C 8 iX4 (List.mem_cons_of_mem _ (List.mem_append_right _ wgL_5_9.1)) dX4_renew_8 ?_
  refine g_iload_n C 11 1 dX4_renew_11 rfl ?_
  refine g_iload_n C 12 3 dX4_renew_12 rfl ?_
  refine g_iast C 13 (10 + 65) 0 65 (wX_arr 65 (by decide)) (wX_aset 65 (by decide)) rfl dX4_renew_13 (fun u2 => ?_)
  refine g_iconst C 14 0 dX4_renew_14 rfl ?_
  refine g_istore C 15 [(4, .int 0), (0, .ref (ad 9)), (1, .int p1), (2, .int p2), (3, .int p3)] dX4_renew_15 (by decide) rfl ?_
  refine g_sub _ [1, 2, 4, 0] rfl ?_
  refine g_lq1 (fun (x3 : Int32) => [(0, .ref (ad 9)), (1, .int p1), (3, .int p3), (4, .int x3)]) (fun self5 hself5 x3 u4 => ?_) F 0 u2
  rw [bX4_renew_17]
  refine g_iload C 17 3 dX4_renew_17 rfl ?_
  refine g_iload_n C 19 2 dX4_renew_19 rfl ?_
  refine g_icmp_ge C 20 42 dX4_renew_20 (by decide) ?_ ?_
  · skip
    exact g_vret C 42 dX4_renew_42
  · skip
    refine g_aload_n C 23 0 dX4_renew_23 rfl ?_
    refine gfX_X4_cells C 24 iX4 (List.mem_cons_of_mem _ (List.mem_append_right _ wgL_5_7.1)) dX4_renew_24 ?_
    refine g_iload_n C 27 1 dX4_renew_27 rfl ?_
    refine g_bipush C 28 40 dX4_renew_28 rfl ?_
    refine g_imul C 30 dX4_renew_30 ?_
    refine g_iload C 31 3 dX4_renew_31 rfl ?_
    refine g_iadd C 33 dX4_renew_33 ?_
    refine g_iconst C 34 0 dX4_renew_34 rfl ?_
    refine g_iast C 35 (10 + 63) 0 63 (wX_arr 63 (by decide)) (wX_aset 63 (by decide)) rfl dX4_renew_35 (fun u6 => ?_)
    refine g_iinc C 36 3 [(4, .int (x3 + 1)), (0, .ref (ad 9)), (1, .int p1), (3, .int p3)] dX4_renew_36 rfl rfl (by decide) rfl ?_
    refine g_goto C 39 17 dX4_renew_39 (by decide) ?_
    exact g_sub _ [1, 2, 3, 0] rfl (hself5 (x3 + 1) u6)
def pX6_sheet (F : Nat) (p1 : Int32) (p2 : Int32) (p3 : Int32) (u : St) : Option (Int32 × St) :=
  bd (pX6_isSheet F p1 p2 u) (fun (r2 : Int32) (u1 : St) => if r2 = 0 then some ((-1), u1) else if p3 ≤ 40 then if 0 ≤ p3 then bd (pX4_renew F p1 p2 p3 u1) (fun (_ : Unit) (u3 : St) => some (1, u3)) else some ((-14), u1) else some ((-1), u1))
set_option maxRecDepth 100000 in
set_option maxHeartbeats 4000000 in
theorem tX6_sheet {l : Launch} {D : va_G} {cI cZ : ClassId} {ad : Nat → Nat} {tBURNS tFLAME_BOUNDS : Nat} {tS : Option Nat} {adK adV : Nat → Nat} (F : Nat) (p1 : Int32) (p2 : Int32) (p3 : Int32) (u : St) : CtI l D [(cI, .int), (cZ, .boolean)] (wX ad cI cZ) (EX tBURNS tFLAME_BOUNDS tS adK adV) yX6_sheet wsX6_sheet ({ frames := 2, cells := 0, slots := 0, locals := 44 } : Room) [.ref (ad 0), .int p1, .int p2, .int p3] u (pX6_sheet F p1 p2 p3 u) := by
  refine ctI_of (own := RX6) (cc := cX6_sheet) (n := 4) (ret := (some .int)) (by decide) rfl rfl (Nat.le_of_ble_eq_true rfl) (lv := [(0, .ref (ad 0)), (1, .int p1), (2, .int p2), (3, .int p3)]) rfl (fun C => ?_)
  have iX6 : ∀ w ∈ wsX60, w ∈ wsX6_sheet := fun w h => List.mem_cons_of_mem _ (List.mem_append_right _ (inlX6 w h))
  rw [pX6_sheet]
  refine g_iload_n C 0 1 dX6_sheet_0 rfl ?_
  refine g_iload_n C 1 2 dX6_sheet_1 rfl ?_
  refine g_callSi (st := []) (As := [.int p1, .int p2]) C EX_ok EX_vm 2 2 (tX6_isSheet F p1 p2 u) rfl gX6_sheet_X6_isSheet rfl rfl rfl (by decide +kernel) ⟨Nat.le_of_ble_eq_true rfl, Nat.le_of_ble_eq_true rfl⟩ rfl (Nat.le_of_ble_eq_true rfl) dX6_sheet_2 (fun r2 u1 => ?_)
  refine g_if_eq C 5 14 dX6_sheet_5 (by decide) ?_ ?_
  · skip
    refine g_iconst C 14 (-1) dX6_sheet_14 rfl ?_
    exact g_iret C 15 dX6_sheet_15
  · skip
    refine g_iload_n C 8 3 dX6_sheet_8 rfl ?_
    refine g_bipush C 9 40 dX6_sheet_9 rfl ?_
    refine g_icmp_le C 11 16 dX6_sheet_11 (by decide) ?_ ?_
    · skip
      refine g_iload_n C 16 3 dX6_sheet_16 rfl ?_
      refine g_if_ge C 17 23 dX6_sheet_17 (by decide) ?_ ?_
      · skip
        refine g_aload_n C 23 0 dX6_sheet_23 rfl ?_
        refine gfX_X6_sheets C 24 iX6 (List.mem_cons_of_mem _ (List.mem_append_right _ wgL_2_15.1)) dX6_sheet_24 ?_
        refine g_iload_n C 27 1 dX6_sheet_27 rfl ?_
        refine g_iload_n C 28 2 dX6_sheet_28 rfl ?_
        refine g_iload_n C 29 3 dX6_sheet_29 rfl ?_
        refine g_callVv (st := []) (As := [.int p1, .int p2, .int p3]) C EX_ok EX_vm 30 9 3 (tX4_renew F p1 p2 p3 u1) rfl gX6_sheet_X4_renew rfl rfl rfl (by decide +kernel) ⟨Nat.le_of_ble_eq_true rfl, Nat.le_of_ble_eq_true rfl⟩ rfl rfl rfl (Nat.le_of_ble_eq_true rfl) dX6_sheet_30 (fun u3 => ?_)
        refine g_iconst C 33 1 dX6_sheet_33 rfl ?_
        exact g_iret C 34 dX6_sheet_34
      · skip
        refine g_bipush C 20 (-14) dX6_sheet_20 rfl ?_
        exact g_iret C 22 dX6_sheet_22
    · skip
      refine g_iconst C 14 (-1) dX6_sheet_14 rfl ?_
      exact g_iret C 15 dX6_sheet_15
def pX4_isNothing (F : Nat) (p1 : Int32) (u : St) : Option (Int32 × St) :=
  gd (inb p1 4) (if (u.2 65 (Int32.toNatClampNeg p1)) = (-4) then some (1, u) else some (0, u))
set_option maxRecDepth 100000 in
set_option maxHeartbeats 4000000 in
theorem tX4_isNothing {l : Launch} {D : va_G} {cI cZ : ClassId} {ad : Nat → Nat} {tBURNS tFLAME_BOUNDS : Nat} {tS : Option Nat} {adK adV : Nat → Nat} (F : Nat) (p1 : Int32) (u : St) : CtI l D [(cI, .int), (cZ, .boolean)] (wX ad cI cZ) (EX tBURNS tFLAME_BOUNDS tS adK adV) yX4_isNothing wsX4_isNothing ({ frames := 0, cells := 0, slots := 0, locals := 0 } : Room) [.ref (ad 9), .int p1] u (pX4_isNothing F p1 u) := by
  refine ctI_of (own := RX4) (cc := cX4_isNothing) (n := 2) (ret := (some .boolean)) (by decide) rfl rfl (Nat.le_of_ble_eq_true rfl) (lv := [(0, .ref (ad 9)), (1, .int p1)]) rfl (fun C => ?_)
  have iX4 : ∀ w ∈ wsX40, w ∈ wsX4_isNothing := fun w h => List.mem_cons_of_mem _ (List.mem_append_right _ (inlX4 w h))
  rw [pX4_isNothing]
  refine g_aload_n C 0 0 dX4_isNothing_0 rfl ?_
  refine gfX_X4_size C 1 iX4 (List.mem_cons_of_mem _ (List.mem_append_right _ wgL_5_9.1)) dX4_isNothing_1 ?_
  refine g_iload_n C 4 1 dX4_isNothing_4 rfl ?_
  refine g_iald C 5 (10 + 65) 0 (wX_arr 65 (by decide)) rfl dX4_isNothing_5 ?_
  refine g_bipush C 6 (-4) dX4_isNothing_6 rfl ?_
  refine g_icmp_ne C 8 15 dX4_isNothing_8 (by decide) ?_ ?_
  · skip
    refine g_iconst C 15 0 dX4_isNothing_15 rfl ?_
    exact g_nret C 16 rfl dX4_isNothing_16
  · skip
    refine g_iconst C 11 1 dX4_isNothing_11 rfl ?_
    refine g_goto C 12 16 dX4_isNothing_12 (by decide) ?_
    exact g_nret C 16 rfl dX4_isNothing_16
def pX4_hasCell (F : Nat) (p1 : Int32) (p2 : Int32) (u : St) : Option (Int32 × St) :=
  gd (inb p1 4) (bd (pX6_isIn F (Int32.toInt64 p2) 0 ((u.2 65 (Int32.toNatClampNeg p1)) - 1) u) (fun (r2 : Int32) (u1 : St) => gd (z01 r2) (some (r2, u1))))
set_option maxRecDepth 100000 in
set_option maxHeartbeats 4000000 in
theorem tX4_hasCell {l : Launch} {D : va_G} {cI cZ : ClassId} {ad : Nat → Nat} {tBURNS tFLAME_BOUNDS : Nat} {tS : Option Nat} {adK adV : Nat → Nat} (F : Nat) (p1 : Int32) (p2 : Int32) (u : St) : CtI l D [(cI, .int), (cZ, .boolean)] (wX ad cI cZ) (EX tBURNS tFLAME_BOUNDS tS adK adV) yX4_hasCell wsX4_hasCell ({ frames := 1, cells := 0, slots := 0, locals := 23 } : Room) [.ref (ad 9), .int p1, .int p2] u (pX4_hasCell F p1 p2 u) := by
  refine ctI_of (own := RX4) (cc := cX4_hasCell) (n := 3) (ret := (some .boolean)) (by decide) rfl rfl (Nat.le_of_ble_eq_true rfl) (lv := [(0, .ref (ad 9)), (1, .int p1), (2, .int p2)]) rfl (fun C => ?_)
  have iX4 : ∀ w ∈ wsX40, w ∈ wsX4_hasCell := fun w h => List.mem_cons_of_mem _ (List.mem_append_right _ (inlX4 w h))
  rw [pX4_hasCell]
  refine g_iload_n C 0 2 dX4_hasCell_0 rfl ?_
  refine g_i2l C 1 dX4_hasCell_1 ?_
  refine g_iconst C 2 0 dX4_hasCell_2 rfl ?_
  refine g_aload_n C 3 0 dX4_hasCell_3 rfl ?_
  refine gfX_X4_size C 4 iX4 (List.mem_cons_of_mem _ (List.mem_append_right _ wgL_5_9.1)) dX4_hasCell_4 ?_
  refine g_iload_n C 7 1 dX4_hasCell_7 rfl ?_
  refine g_iald C 8 (10 + 65) 0 (wX_arr 65 (by decide)) rfl dX4_hasCell_8 ?_
  refine g_iconst C 9 1 dX4_hasCell_9 rfl ?_
  refine g_isub C 10 dX4_hasCell_10 ?_
  refine g_callNi (st := []) (As := [.long (Int32.toInt64 p2), .int 0, .int ((u.2 65 (Int32.toNatClampNeg p1)) - 1)]) C EX_ok EX_vm 11 3 (tX6_isIn F (Int32.toInt64 p2) 0 ((u.2 65 (Int32.toNatClampNeg p1)) - 1) u) rfl ggX4_hasCell_X6_isIn rfl rfl rfl (EX_n4 C.2.2.2.2.2.2.2.2.1) (by decide +kernel) (by decide +kernel) (by decide +kernel) ⟨Nat.le_of_ble_eq_true rfl, Nat.le_of_ble_eq_true rfl⟩ rfl (Nat.le_of_ble_eq_true rfl) dX4_hasCell_11 (fun r2 u1 => ?_)
  exact g_zret C 14 dX4_hasCell_14
def pX4_put (F : Nat) (p1 : Int32) (p2 : Int32) (p3 : Int32) (u : St) : Option (Unit × St) :=
  gd (inb p1 4) (jn (fun (a1 : Int32) (u2 : St) => gd (inb ((p1 * 40) + p2) 160) (vl (sta u2 63 ((p1 * 40) + p2) a1) (fun (u3 : St) => some ((), u3)))) (fun (J33 : Int32 → St → Option (Unit × St)) => if (u.2 64 (Int32.toNatClampNeg p1)) = 0 then vl (Int8.toInt32 (Int32.toInt8 p3)) (fun v5 => (J33 v5 u)) else gd (inb p1 4) (if (u.2 64 (Int32.toNatClampNeg p1)) = 1 then vl (Int16.toInt32 (Int32.toInt16 p3)) (fun v4 => (J33 v4 u)) else (J33 p3 u))))
set_option maxRecDepth 100000 in
set_option maxHeartbeats 4000000 in
theorem tX4_put {l : Launch} {D : va_G} {cI cZ : ClassId} {ad : Nat → Nat} {tBURNS tFLAME_BOUNDS : Nat} {tS : Option Nat} {adK adV : Nat → Nat} (F : Nat) (p1 : Int32) (p2 : Int32) (p3 : Int32) (u : St) : CtV l D [(cI, .int), (cZ, .boolean)] (wX ad cI cZ) (EX tBURNS tFLAME_BOUNDS tS adK adV) yX4_put wsX4_put ({ frames := 0, cells := 0, slots := 0, locals := 0 } : Room) [.ref (ad 9), .int p1, .int p2, .int p3] u (pX4_put F p1 p2 p3 u) := by
  refine ctV_of (own := RX4) (cc := cX4_put) (n := 5) (ret := none) (by decide) rfl rfl (Nat.le_of_ble_eq_true rfl) (lv := [(0, .ref (ad 9)), (1, .int p1), (2, .int p2), (3, .int p3)]) rfl (fun C => ?_)
  have iX4 : ∀ w ∈ wsX40, w ∈ wsX4_put := fun w h => List.mem_cons_of_mem _ (List.mem_append_right _ (inlX4 w h))
  rw [pX4_put]
  refine g_iload_n C 0 3 dX4_put_0 rfl ?_
  refine g_istore C 1 [(4, .int p3), (0, .ref (ad 9)), (1, .int p1), (2, .int p2), (3, .int p3)] dX4_put_1 (by decide) rfl ?_
  refine g_aload_n C 3 1 dX4_put_3 rfl ?_
  refine gfX_X4_lane C 4 iX4 (List.mem_cons_of_mem _ (List.mem_append_right _ wgL_5_8.1)) dX4_put_4 ?_
  refine g_iload_n C 7 2 dX4_put_7 rfl ?_
  refine g_iald C 8 (10 + 64) 0 (wX_arr 64 (by decide)) rfl dX4_put_8 ?_
  refine g_jn1 33 (fun (a1 : Int32) => [(0, .ref (ad 9)), (1, .int p1), (2, .int p2), (4, .int a1)]) (fun (a1 : Int32) => []) (fun a1 u2 => ?_) (fun J33 hJ33 => ?_)
  · skip
    refine g_aload_n C 33 0 dX4_put_33 rfl ?_
    refine gfX_X4_cells C 34 iX4 (List.mem_cons_of_mem _ (List.mem_append_right _ wgL_5_7.1)) dX4_put_34 ?_
    refine g_iload_n C 37 1 dX4_put_37 rfl ?_
    refine g_bipush C 38 40 dX4_put_38 rfl ?_
    refine g_imul C 40 dX4_put_40 ?_
    refine g_iload_n C 41 2 dX4_put_41 rfl ?_
    refine g_iadd C 42 dX4_put_42 ?_
    refine g_iload C 43 3 dX4_put_43 rfl ?_
    refine g_iast C 45 (10 + 63) 0 63 (wX_arr 63 (by decide)) (wX_aset 63 (by decide)) rfl dX4_put_45 (fun u3 => ?_)
    exact g_vret C 46 dX4_put_46
  · skip
    refine g_if_ne C 9 19 dX4_put_9 (by decide) ?_ ?_
    · skip
      refine g_aload_n C 19 1 dX4_put_19 rfl ?_
      refine gfX_X4_lane C 20 iX4 (List.mem_cons_of_mem _ (List.mem_append_right _ wgL_5_8.1)) dX4_put_20 ?_
      refine g_iload_n C 23 2 dX4_put_23 rfl ?_
      refine g_iald C 24 (10 + 64) 0 (wX_arr 64 (by decide)) rfl dX4_put_24 ?_
      refine g_iconst C 25 1 dX4_put_25 rfl ?_
      refine g_icmp_ne C 26 33 dX4_put_26 (by decide) ?_ ?_
      · skip
        exact g_sub _ [1, 2, 3, 0] rfl (hJ33 p3 u)
      · skip
        refine g_iload_n C 29 4 dX4_put_29 rfl ?_
        refine g_i2s C 30 dX4_put_30 ?_
        refine g_istoreV C 31 (fun v4 => [(4, .int v4), (0, .ref (ad 9)), (1, .int p1), (2, .int p2), (3, .int p3)]) dX4_put_31 (by decide) (fun _ => rfl) (fun v4 => ?_)
        exact g_sub _ [1, 2, 3, 0] rfl (hJ33 v4 u)
    · skip
      refine g_iload_n C 12 4 dX4_put_12 rfl ?_
      refine g_i2b C 13 dX4_put_13 ?_
      refine g_istoreV C 14 (fun v5 => [(4, .int v5), (0, .ref (ad 9)), (1, .int p1), (2, .int p2), (3, .int p3)]) dX4_put_14 (by decide) (fun _ => rfl) (fun v5 => ?_)
      refine g_goto C 16 33 dX4_put_16 (by decide) ?_
      exact g_sub _ [1, 2, 3, 0] rfl (hJ33 v5 u)
def pX6_lay (F : Nat) (p1 : Int32) (p2 : Int32) (p3 : Int32) (u : St) : Option (Int32 × St) :=
  bd (pX6_isSheet F p1 0 u) (fun (r2 : Int32) (u1 : St) => if r2 = 0 then some ((-1), u1) else bd (pX4_isNothing F p1 u1) (fun (r4 : Int32) (u3 : St) => if r4 = 0 then bd (pX4_hasCell F p1 p2 u3) (fun (r6 : Int32) (u5 : St) => if r6 = 0 then some ((-12), u5) else bd (pX4_put F p1 p2 p3 u5) (fun (_ : Unit) (u7 : St) => some (1, u7))) else some ((-11), u3)))
set_option maxRecDepth 100000 in
set_option maxHeartbeats 4000000 in
theorem tX6_lay {l : Launch} {D : va_G} {cI cZ : ClassId} {ad : Nat → Nat} {tBURNS tFLAME_BOUNDS : Nat} {tS : Option Nat} {adK adV : Nat → Nat} (F : Nat) (p1 : Int32) (p2 : Int32) (p3 : Int32) (u : St) : CtI l D [(cI, .int), (cZ, .boolean)] (wX ad cI cZ) (EX tBURNS tFLAME_BOUNDS tS adK adV) yX6_lay wsX6_lay ({ frames := 2, cells := 0, slots := 0, locals := 45 } : Room) [.ref (ad 0), .int p1, .int p2, .int p3] u (pX6_lay F p1 p2 p3 u) := by
  refine ctI_of (own := RX6) (cc := cX6_lay) (n := 4) (ret := (some .int)) (by decide) rfl rfl (Nat.le_of_ble_eq_true rfl) (lv := [(0, .ref (ad 0)), (1, .int p1), (2, .int p2), (3, .int p3)]) rfl (fun C => ?_)
  have iX6 : ∀ w ∈ wsX60, w ∈ wsX6_lay := fun w h => List.mem_cons_of_mem _ (List.mem_append_right _ (inlX6 w h))
  rw [pX6_lay]
  refine g_iload_n C 0 1 dX6_lay_0 rfl ?_
  refine g_iconst C 1 0 dX6_lay_1 rfl ?_
  refine g_callSi (st := []) (As := [.int p1, .int 0]) C EX_ok EX_vm 2 2 (tX6_isSheet F p1 0 u) rfl gX6_lay_X6_isSheet rfl rfl rfl (by decide +kernel) ⟨Nat.le_of_ble_eq_true rfl, Nat.le_of_ble_eq_true rfl⟩ rfl (Nat.le_of_ble_eq_true rfl) dX6_lay_2 (fun r2 u1 => ?_)
  refine g_if_ne C 5 10 dX6_lay_5 (by decide) ?_ ?_
  · skip
    refine g_aload_n C 10 0 dX6_lay_10 rfl ?_
    refine gfX_X6_sheets C 11 iX6 (List.mem_cons_of_mem _ (List.mem_append_right _ wgL_2_15.1)) dX6_lay_11 ?_
    refine g_iload_n C 14 1 dX6_lay_14 rfl ?_
    refine g_callVi (st := []) (As := [.int p1]) C EX_ok EX_vm 15 9 1 (tX4_isNothing F p1 u1) rfl gX6_lay_X4_isNothing rfl rfl rfl (by decide +kernel) ⟨Nat.le_of_ble_eq_true rfl, Nat.le_of_ble_eq_true rfl⟩ rfl rfl rfl (Nat.le_of_ble_eq_true rfl) dX6_lay_15 (fun r4 u3 => ?_)
    refine g_if_eq C 18 24 dX6_lay_18 (by decide) ?_ ?_
    · skip
      refine g_aload_n C 24 0 dX6_lay_24 rfl ?_
      refine gfX_X6_sheets C 25 iX6 (List.mem_cons_of_mem _ (List.mem_append_right _ wgL_2_15.1)) dX6_lay_25 ?_
      refine g_iload_n C 28 1 dX6_lay_28 rfl ?_
      refine g_iload_n C 29 2 dX6_lay_29 rfl ?_
      refine g_callVi (st := []) (As := [.int p1, .int p2]) C EX_ok EX_vm 30 9 2 (tX4_hasCell F p1 p2 u3) rfl gX6_lay_X4_hasCell rfl rfl rfl (by decide +kernel) ⟨Nat.le_of_ble_eq_true rfl, Nat.le_of_ble_eq_true rfl⟩ rfl rfl rfl (Nat.le_of_ble_eq_true rfl) dX6_lay_30 (fun r6 u5 => ?_)
      refine g_if_ne C 33 39 dX6_lay_33 (by decide) ?_ ?_
      · skip
        refine g_aload_n C 39 0 dX6_lay_39 rfl ?_
        refine gfX_X6_sheets C 40 iX6 (List.mem_cons_of_mem _ (List.mem_append_right _ wgL_2_15.1)) dX6_lay_40 ?_
        refine g_iload_n C 43 1 dX6_lay_43 rfl ?_
        refine g_iload_n C 44 2 dX6_lay_44 rfl ?_
        refine g_iload_n C 45 3 dX6_lay_45 rfl ?_
        refine g_callVv (st := []) (As := [.int p1, .int p2, .int p3]) C EX_ok EX_vm 46 9 3 (tX4_put F p1 p2 p3 u5) rfl gX6_lay_X4_put rfl rfl rfl (by decide +kernel) ⟨Nat.le_of_ble_eq_true rfl, Nat.le_of_ble_eq_true rfl⟩ rfl rfl rfl (Nat.le_of_ble_eq_true rfl) dX6_lay_46 (fun u7 => ?_)
        refine g_iconst C 49 1 dX6_lay_49 rfl ?_
        exact g_iret C 50 dX6_lay_50
      · skip
        refine g_bipush C 36 (-12) dX6_lay_36 rfl ?_
        exact g_iret C 38 dX6_lay_38
    · skip
      refine g_bipush C 21 (-11) dX6_lay_21 rfl ?_
      exact g_iret C 23 dX6_lay_23
  · skip
    refine g_iconst C 8 (-1) dX6_lay_8 rfl ?_
    exact g_iret C 9 dX6_lay_9
def pX4_faultAs (F : Nat) (p1 : Int32) (p2 : Int32) (u : St) : Option (Int32 × St) :=
  bd (pX4_isNothing F p1 u) (fun (r2 : Int32) (u1 : St) => if r2 = 0 then gd (inb p1 4) (if (u1.2 64 (Int32.toNatClampNeg p1)) = p2 then some (0, u1) else some (3, u1)) else some (1, u1))
set_option maxRecDepth 100000 in
set_option maxHeartbeats 4000000 in
theorem tX4_faultAs {l : Launch} {D : va_G} {cI cZ : ClassId} {ad : Nat → Nat} {tBURNS tFLAME_BOUNDS : Nat} {tS : Option Nat} {adK adV : Nat → Nat} (F : Nat) (p1 : Int32) (p2 : Int32) (u : St) : CtI l D [(cI, .int), (cZ, .boolean)] (wX ad cI cZ) (EX tBURNS tFLAME_BOUNDS tS adK adV) yX4_faultAs wsX4_faultAs ({ frames := 1, cells := 0, slots := 0, locals := 21 } : Room) [.ref (ad 9), .int p1, .int p2] u (pX4_faultAs F p1 p2 u) := by
  refine ctI_of (own := RX4) (cc := cX4_faultAs) (n := 3) (ret := (some .int)) (by decide) rfl rfl (Nat.le_of_ble_eq_true rfl) (lv := [(0, .ref (ad 9)), (1, .int p1), (2, .int p2)]) rfl (fun C => ?_)
  have iX4 : ∀ w ∈ wsX40, w ∈ wsX4_faultAs := fun w h => List.mem_cons_of_mem _ (List.mem_append_right _ (inlX4 w h))
  rw [pX4_faultAs]
  refine g_aload_n C 0 0 dX4_faultAs_0 rfl ?_
  refine g_iload_n C 1 1 dX4_faultAs_1 rfl ?_
  refine g_callVi (st := []) (As := [.int p1]) C EX_ok EX_vm 2 9 1 (tX4_isNothing F p1 u) rfl gX4_faultAs_X4_isNothing rfl rfl rfl (by decide +kernel) ⟨Nat.le_of_ble_eq_true rfl, Nat.le_of_ble_eq_true rfl⟩ rfl rfl rfl (Nat.le_of_ble_eq_true rfl) dX4_faultAs_2 (fun r2 u1 => ?_)
  refine g_if_eq C 5 10 dX4_faultAs_5 (by decide) ?_ ?_
  · skip
    refine g_aload_n C 10 0 dX4_faultAs_10 rfl ?_
    refine gfX_X4_lane C 11 iX4 (List.mem_cons_of_mem _ (List.mem_append_right _ wgL_5_8.1)) dX4_faultAs_11 ?_
    refine g_iload_n C 14 1 dX4_faultAs_14 rfl ?_
    refine g_iald C 15 (10 + 64) 0 (wX_arr 64 (by decide)) rfl dX4_faultAs_15 ?_
    refine g_iload_n C 16 2 dX4_faultAs_16 rfl ?_
    refine g_icmp_ne C 17 24 dX4_faultAs_17 (by decide) ?_ ?_
    · skip
      refine g_iconst C 24 3 dX4_faultAs_24 rfl ?_
      exact g_iret C 25 dX4_faultAs_25
    · skip
      refine g_iconst C 20 0 dX4_faultAs_20 rfl ?_
      refine g_goto C 21 25 dX4_faultAs_21 (by decide) ?_
      exact g_iret C 25 dX4_faultAs_25
  · skip
    refine g_iconst C 8 1 dX4_faultAs_8 rfl ?_
    exact g_iret C 9 dX4_faultAs_9
def pX4_wholePairs (F : Nat) (p1 : Int32) (p2 : Int32) (p3 : Int32) (u : St) : Option (Int32 × St) :=
  bd (pX4_hasCell F p1 p2 u) (fun (r2 : Int32) (u1 : St) => if r2 = 0 then some (0, u1) else gd (inb p1 4) (gd (nz 2) (some ((if (((u1.2 65 (Int32.toNatClampNeg p1)) - p2) / 2) < p3 then (((u1.2 65 (Int32.toNatClampNeg p1)) - p2) / 2) else p3), u1))))
set_option maxRecDepth 100000 in
set_option maxHeartbeats 4000000 in
theorem tX4_wholePairs {l : Launch} {D : va_G} {cI cZ : ClassId} {ad : Nat → Nat} {tBURNS tFLAME_BOUNDS : Nat} {tS : Option Nat} {adK adV : Nat → Nat} (F : Nat) (p1 : Int32) (p2 : Int32) (p3 : Int32) (u : St) : CtI l D [(cI, .int), (cZ, .boolean)] (wX ad cI cZ) (EX tBURNS tFLAME_BOUNDS tS adK adV) yX4_wholePairs wsX4_wholePairs ({ frames := 2, cells := 0, slots := 0, locals := 45 } : Room) [.ref (ad 9), .int p1, .int p2, .int p3] u (pX4_wholePairs F p1 p2 p3 u) := by
  refine ctI_of (own := RX4) (cc := cX4_wholePairs) (n := 4) (ret := (some .int)) (by decide) rfl rfl (Nat.le_of_ble_eq_true rfl) (lv := [(0, .ref (ad 9)), (1, .int p1), (2, .int p2), (3, .int p3)]) rfl (fun C => ?_)
  have iX4 : ∀ w ∈ wsX40, w ∈ wsX4_wholePairs := fun w h => List.mem_cons_of_mem _ (List.mem_append_right _ (inlX4 w h))
  rw [pX4_wholePairs]
  refine g_aload_n C 0 0 dX4_wholePairs_0 rfl ?_
  refine g_iload_n C 1 1 dX4_wholePairs_1 rfl ?_
  refine g_iload_n C 2 2 dX4_wholePairs_2 rfl ?_
  refine g_callVi (st := []) (As := [.int p1, .int p2]) C EX_ok EX_vm 3 9 2 (tX4_hasCell F p1 p2 u) rfl gX4_wholePairs_X4_hasCell rfl rfl rfl (by decide +kernel) ⟨Nat.le_of_ble_eq_true rfl, Nat.le_of_ble_eq_true rfl⟩ rfl rfl rfl (Nat.le_of_ble_eq_true rfl) dX4_wholePairs_3 (fun r2 u1 => ?_)
  refine g_if_eq C 6 26 dX4_wholePairs_6 (by decide) ?_ ?_
  · skip
    refine g_iconst C 26 0 dX4_wholePairs_26 rfl ?_
    exact g_iret C 27 dX4_wholePairs_27
  · skip
    refine g_iload_n C 9 3 dX4_wholePairs_9 rfl ?_
    refine g_aload_n C 10 0 dX4_wholePairs_10 rfl ?_
    refine gfX_X4_size C 11 iX4 (List.mem_cons_of_mem _ (List.mem_append_right _ wgL_5_9.1)) dX4_wholePairs_11 ?_
    refine g_iload_n C 14 1 dX4_wholePairs_14 rfl ?_
    refine g_iald C 15 (10 + 65) 0 (wX_arr 65 (by decide)) rfl dX4_wholePairs_15 ?_
    refine g_iload_n C 16 2 dX4_wholePairs_16 rfl ?_
    refine g_isub C 17 dX4_wholePairs_17 ?_
    refine g_iconst C 18 2 dX4_wholePairs_18 rfl ?_
    refine g_idiv C 19 dX4_wholePairs_19 ?_
    refine g_mmin C 20 (by decide +kernel) (by decide +kernel) (by decide +kernel) (by decide +kernel) ⟨Nat.le_of_ble_eq_true rfl, Nat.le_of_ble_eq_true rfl⟩ dX4_wholePairs_20 ?_
    refine g_goto C 23 27 dX4_wholePairs_23 (by decide) ?_
    exact g_iret C 27 dX4_wholePairs_27
def pX4_cell (F : Nat) (p1 : Int32) (p2 : Int32) (u : St) : Option (Int32 × St) :=
  bd (pX4_hasCell F p1 p2 u) (fun (r2 : Int32) (u1 : St) => if r2 = 0 then some ((-4), u1) else gd (inb ((p1 * 40) + p2) 160) (some ((u1.2 63 (Int32.toNatClampNeg ((p1 * 40) + p2))), u1)))
set_option maxRecDepth 100000 in
set_option maxHeartbeats 4000000 in
theorem tX4_cell {l : Launch} {D : va_G} {cI cZ : ClassId} {ad : Nat → Nat} {tBURNS tFLAME_BOUNDS : Nat} {tS : Option Nat} {adK adV : Nat → Nat} (F : Nat) (p1 : Int32) (p2 : Int32) (u : St) : CtI l D [(cI, .int), (cZ, .boolean)] (wX ad cI cZ) (EX tBURNS tFLAME_BOUNDS tS adK adV) yX4_cell wsX4_cell ({ frames := 2, cells := 0, slots := 0, locals := 45 } : Room) [.ref (ad 9), .int p1, .int p2] u (pX4_cell F p1 p2 u) := by
  refine ctI_of (own := RX4) (cc := cX4_cell) (n := 3) (ret := (some .int)) (by decide) rfl rfl (Nat.le_of_ble_eq_true rfl) (lv := [(0, .ref (ad 9)), (1, .int p1), (2, .int p2)]) rfl (fun C => ?_)
  have iX4 : ∀ w ∈ wsX40, w ∈ wsX4_cell := fun w h => List.mem_cons_of_mem _ (List.mem_append_right _ (inlX4 w h))
  rw [pX4_cell]
  refine g_aload_n C 0 0 dX4_cell_0 rfl ?_
  refine g_iload_n C 1 1 dX4_cell_1 rfl ?_
  refine g_iload_n C 2 2 dX4_cell_2 rfl ?_
  refine g_callVi (st := []) (As := [.int p1, .int p2]) C EX_ok EX_vm 3 9 2 (tX4_hasCell F p1 p2 u) rfl gX4_cell_X4_hasCell rfl rfl rfl (by decide +kernel) ⟨Nat.le_of_ble_eq_true rfl, Nat.le_of_ble_eq_true rfl⟩ rfl rfl rfl (Nat.le_of_ble_eq_true rfl) dX4_cell_3 (fun r2 u1 => ?_)
  refine g_if_eq C 6 23 dX4_cell_6 (by decide) ?_ ?_
  · skip
    refine g_bipush C 23 (-4) dX4_cell_23 rfl ?_
    exact g_iret C 25 dX4_cell_25
  · skip
    refine g_aload_n C 9 0 dX4_cell_9 rfl ?_
    refine gfX_X4_cells C 10 iX4 (List.mem_cons_of_mem _ (List.mem_append_right _ wgL_5_7.1)) dX4_cell_10 ?_
    refine g_iload_n C 13 1 dX4_cell_13 rfl ?_
    refine g_bipush C 14 40 dX4_cell_14 rfl ?_
    refine g_imul C 16 dX4_cell_16 ?_
    refine g_iload_n C 17 2 dX4_cell_17 rfl ?_
    refine g_iadd C 18 dX4_cell_18 ?_
    refine g_iald C 19 (10 + 63) 0 (wX_arr 63 (by decide)) rfl dX4_cell_19 ?_
    refine g_goto C 20 25 dX4_cell_20 (by decide) ?_
    exact g_iret C 25 dX4_cell_25
def bX6_pairsAccepted_6 (F : Nat) (p1 : Int32) (p2 : Int32) (p3 : Int32) (self4 : Int32 → Int32 → St → Option (Int32 × St)) (x1 : Int32) (x2 : Int32) (u3 : St) : Option (Int32 × St) :=
  if p3 ≤ x2 then some (p3, u3) else bd (pX4_cell F p1 (p2 + (2 * x2)) u3) (fun (r6 : Int32) (u5 : St) => bd (pX4_cell F p1 ((p2 + (2 * x2)) + 1) u5) (fun (r8 : Int32) (u7 : St) => bd (pX0_hasCase F 0 (Int32.toInt64 r6) u7) (fun (r10 : Int32) (u9 : St) => if r10 = 0 then some (x2, u9) else bd (pX0_hasJudge F 0 r8 u9) (fun (r12 : Int32) (u11 : St) => if r12 = 0 then some (x2, u11) else gd (inb r6 4) (if (u11.2 3 (Int32.toNatClampNeg r6)) = 0 then if ((x1 >>> (r6 &&& 31)) &&& 1) = 0 then vl (x1 ||| (1 <<< (r6 &&& 31))) (fun v13 => (self4 v13 (x2 + 1) u11)) else some (x2, u11) else some (x2, u11))))))
def pX6_pairsAccepted (F : Nat) (p1 : Int32) (p2 : Int32) (p3 : Int32) (u : St) : Option (Int32 × St) :=
  (lq2 (bX6_pairsAccepted_6 F p1 p2 p3) F 0 0 u)
set_option maxRecDepth 100000 in
set_option maxHeartbeats 4000000 in
theorem tX6_pairsAccepted {l : Launch} {D : va_G} {cI cZ : ClassId} {ad : Nat → Nat} {tBURNS tFLAME_BOUNDS : Nat} {tS : Option Nat} {adK adV : Nat → Nat} (F : Nat) (p1 : Int32) (p2 : Int32) (p3 : Int32) (u : St) : CtI l D [(cI, .int), (cZ, .boolean)] (wX ad cI cZ) (EX tBURNS tFLAME_BOUNDS tS adK adV) yX6_pairsAccepted wsX6_pairsAccepted ({ frames := 3, cells := 0, slots := 0, locals := 67 } : Room) [.ref (ad 0), .int p1, .int p2, .int p3] u (pX6_pairsAccepted F p1 p2 p3 u) := by
  refine ctI_of (own := RX6) (cc := cX6_pairsAccepted) (n := 8) (ret := (some .int)) (by decide) rfl rfl (Nat.le_of_ble_eq_true rfl) (lv := [(0, .ref (ad 0)), (1, .int p1), (2, .int p2), (3, .int p3)]) rfl (fun C => ?_)
  have iX0 : ∀ w ∈ wsX00, w ∈ wsX6_pairsAccepted := fun w h => List.mem_cons_of_mem _ (List.mem_append_right _ (inlX0 w h))
  have iX6 : ∀ w ∈ wsX60, w ∈ wsX6_pairsAccepted := fun w h => List.mem_cons_of_mem _ (List.mem_append_right _ (inlX6 w h))
  rw [pX6_pairsAccepted]
  refine g_iconst C 0 0 dX6_pairsAccepted_0 rfl ?_
  refine g_istore C 1 [(4, .int 0), (0, .ref (ad 0)), (1, .int p1), (2, .int p2), (3, .int p3)] dX6_pairsAccepted_1 (by decide) rfl ?_
  refine g_iconst C 3 0 dX6_pairsAccepted_3 rfl ?_
  refine g_istore C 4 [(5, .int 0), (4, .int 0), (0, .ref (ad 0)), (1, .int p1), (2, .int p2), (3, .int p3)] dX6_pairsAccepted_4 (by decide) rfl ?_
  refine g_sub _ [2, 3, 4, 5, 1, 0] rfl ?_
  refine g_lq2 (fun (x1 : Int32) (x2 : Int32) => [(0, .ref (ad 0)), (1, .int p1), (2, .int p2), (3, .int p3), (4, .int x1), (5, .int x2)]) (fun self4 hself4 x1 x2 u3 => ?_) F 0 0 u
  rw [bX6_pairsAccepted_6]
  refine g_iload C 6 5 dX6_pairsAccepted_6 rfl ?_
  refine g_iload_n C 8 3 dX6_pairsAccepted_8 rfl ?_
  refine g_icmp_ge C 9 112 dX6_pairsAccepted_9 (by decide) ?_ ?_
  · skip
    refine g_iload_n C 112 3 dX6_pairsAccepted_112 rfl ?_
    exact g_iret C 113 dX6_pairsAccepted_113
  · skip
    refine g_aload_n C 12 0 dX6_pairsAccepted_12 rfl ?_
    refine gfX_X6_sheets C 13 iX6 (List.mem_cons_of_mem _ (List.mem_append_right _ wgL_2_15.1)) dX6_pairsAccepted_13 ?_
    refine g_iload_n C 16 1 dX6_pairsAccepted_16 rfl ?_
    refine g_iload_n C 17 2 dX6_pairsAccepted_17 rfl ?_
    refine g_iconst C 18 2 dX6_pairsAccepted_18 rfl ?_
    refine g_iload C 19 5 dX6_pairsAccepted_19 rfl ?_
    refine g_imul C 21 dX6_pairsAccepted_21 ?_
    refine g_iadd C 22 dX6_pairsAccepted_22 ?_
    refine g_callVi (st := []) (As := [.int p1, .int (p2 + (2 * x2))]) C EX_ok EX_vm 23 9 2 (tX4_cell F p1 (p2 + (2 * x2)) u3) rfl gX6_pairsAccepted_X4_cell rfl rfl rfl (by decide +kernel) ⟨Nat.le_of_ble_eq_true rfl, Nat.le_of_ble_eq_true rfl⟩ rfl rfl rfl (Nat.le_of_ble_eq_true rfl) dX6_pairsAccepted_23 (fun r6 u5 => ?_)
    refine g_istore C 26 [(6, .int r6), (0, .ref (ad 0)), (1, .int p1), (2, .int p2), (3, .int p3), (4, .int x1), (5, .int x2)] dX6_pairsAccepted_26 (by decide) rfl ?_
    refine g_aload_n C 28 1 dX6_pairsAccepted_28 rfl ?_
    refine gfX_X6_sheets C 29 iX6 (List.mem_cons_of_mem _ (List.mem_append_right _ wgL_2_15.1)) dX6_pairsAccepted_29 ?_
    refine g_iload_n C 32 2 dX6_pairsAccepted_32 rfl ?_
    refine g_iload_n C 33 3 dX6_pairsAccepted_33 rfl ?_
    refine g_iconst C 34 2 dX6_pairsAccepted_34 rfl ?_
    refine g_iload C 35 6 dX6_pairsAccepted_35 rfl ?_
    refine g_imul C 37 dX6_pairsAccepted_37 ?_
    refine g_iadd C 38 dX6_pairsAccepted_38 ?_
    refine g_iconst C 39 1 dX6_pairsAccepted_39 rfl ?_
    refine g_iadd C 40 dX6_pairsAccepted_40 ?_
    refine g_callVi (st := []) (As := [.int p1, .int ((p2 + (2 * x2)) + 1)]) C EX_ok EX_vm 41 9 2 (tX4_cell F p1 ((p2 + (2 * x2)) + 1) u5) rfl gX6_pairsAccepted_X4_cell rfl rfl rfl (by decide +kernel) ⟨Nat.le_of_ble_eq_true rfl, Nat.le_of_ble_eq_true rfl⟩ rfl rfl rfl (Nat.le_of_ble_eq_true rfl) dX6_pairsAccepted_41 (fun r8 u7 => ?_)
    refine g_istore C 44 [(7, .int r8), (6, .int r6), (0, .ref (ad 0)), (1, .int p1), (2, .int p2), (3, .int p3), (4, .int x1), (5, .int x2)] dX6_pairsAccepted_44 (by decide) rfl ?_
    refine g_aload_n C 46 2 dX6_pairsAccepted_46 rfl ?_
    refine gfX_X6_court C 47 iX6 (List.mem_cons_of_mem _ (List.mem_append_right _ wgL_1_15.1)) dX6_pairsAccepted_47 ?_
    refine g_iload C 50 1 dX6_pairsAccepted_50 rfl ?_
    refine g_i2l C 52 dX6_pairsAccepted_52 ?_
    refine g_callVi (st := []) (As := [.long (Int32.toInt64 r6)]) C EX_ok EX_vm 53 1 1 (tX0_hasCase F 0 (by decide) (Int32.toInt64 r6) u7) rfl gX6_pairsAccepted_X0_hasCase rfl rfl rfl (by decide +kernel) ⟨Nat.le_of_ble_eq_true rfl, Nat.le_of_ble_eq_true rfl⟩ (wX_X0 ad cI cZ _ 0 (by decide)) rfl rfl (Nat.le_of_ble_eq_true rfl) dX6_pairsAccepted_53 (fun r10 u9 => ?_)
    refine g_if_eq C 56 94 dX6_pairsAccepted_56 (by decide) ?_ ?_
    · skip
      refine g_iload C 94 7 dX6_pairsAccepted_94 rfl ?_
      exact g_iret C 96 dX6_pairsAccepted_96
    · skip
      refine g_aload_n C 59 2 dX6_pairsAccepted_59 rfl ?_
      refine gfX_X6_court C 60 iX6 (List.mem_cons_of_mem _ (List.mem_append_right _ wgL_1_15.1)) dX6_pairsAccepted_60 ?_
      refine g_iload C 63 0 dX6_pairsAccepted_63 rfl ?_
      refine g_callVi (st := []) (As := [.int r8]) C EX_ok EX_vm 65 1 1 (tX0_hasJudge F 0 (by decide) r8 u9) rfl gX6_pairsAccepted_X0_hasJudge rfl rfl rfl (by decide +kernel) ⟨Nat.le_of_ble_eq_true rfl, Nat.le_of_ble_eq_true rfl⟩ (wX_X0 ad cI cZ _ 0 (by decide)) rfl rfl (Nat.le_of_ble_eq_true rfl) dX6_pairsAccepted_65 (fun r12 u11 => ?_)
      refine g_if_eq C 68 94 dX6_pairsAccepted_68 (by decide) ?_ ?_
      · skip
        refine g_iload C 94 7 dX6_pairsAccepted_94 rfl ?_
        exact g_iret C 96 dX6_pairsAccepted_96
      · skip
        refine g_aload_n C 71 2 dX6_pairsAccepted_71 rfl ?_
        refine gfX_X6_court C 72 iX6 (List.mem_cons_of_mem _ (List.mem_append_right _ wgL_1_15.1)) dX6_pairsAccepted_72 ?_
        refine gfX_X0_verdict 0 (by decide) C 75 iX0 (List.mem_cons_of_mem _ (List.mem_append_right _ wgL_18_9.1)) dX6_pairsAccepted_75 ?_
        refine g_iload C 78 1 dX6_pairsAccepted_78 rfl ?_
        refine g_iald C 80 (10 + 3) 0 (wX_arr 3 (by decide)) rfl dX6_pairsAccepted_80 ?_
        refine g_if_ne C 81 94 dX6_pairsAccepted_81 (by decide) ?_ ?_
        · skip
          refine g_iload C 94 7 dX6_pairsAccepted_94 rfl ?_
          exact g_iret C 96 dX6_pairsAccepted_96
        · skip
          refine g_iload C 84 6 dX6_pairsAccepted_84 rfl ?_
          refine g_iload C 86 1 dX6_pairsAccepted_86 rfl ?_
          refine g_ishr C 88 dX6_pairsAccepted_88 ?_
          refine g_iconst C 89 1 dX6_pairsAccepted_89 rfl ?_
          refine g_iand C 90 dX6_pairsAccepted_90 ?_
          refine g_if_eq C 91 97 dX6_pairsAccepted_91 (by decide) ?_ ?_
          · skip
            refine g_iload C 97 6 dX6_pairsAccepted_97 rfl ?_
            refine g_iconst C 99 1 dX6_pairsAccepted_99 rfl ?_
            refine g_iload C 100 1 dX6_pairsAccepted_100 rfl ?_
            refine g_ishl C 102 dX6_pairsAccepted_102 ?_
            refine g_ior C 103 dX6_pairsAccepted_103 ?_
            refine g_istoreV C 104 (fun v13 => [(4, .int v13), (7, .int r8), (6, .int r6), (0, .ref (ad 0)), (1, .int p1), (2, .int p2), (3, .int p3), (5, .int x2)]) dX6_pairsAccepted_104 (by decide) (fun _ => rfl) (fun v13 => ?_)
            refine g_iinc C 106 7 [(5, .int (x2 + 1)), (4, .int v13), (7, .int r8), (6, .int r6), (0, .ref (ad 0)), (1, .int p1), (2, .int p2), (3, .int p3)] dX6_pairsAccepted_106 rfl rfl (by decide) rfl ?_
            refine g_goto C 109 6 dX6_pairsAccepted_109 (by decide) ?_
            exact g_sub _ [4, 5, 6, 7, 1, 0] rfl (hself4 v13 (x2 + 1) u11)
          · skip
            refine g_iload C 94 7 dX6_pairsAccepted_94 rfl ?_
            exact g_iret C 96 dX6_pairsAccepted_96
def jX6_read_138 (F : Nat) (p4 : Int32) (a5 : Int32) (a7 : Int32)  (u11 : St) : Option (Int32 × St) :=
  jn (fun (a12 : Int32) (u13 : St) => vl (stf u13 16 a12) (fun (u14 : St) => some (a7, u14))) (fun (J157 : Int32 → St → Option (Int32 × St)) => jn (fun (u15 : St) => (J157 a5 u15)) (fun (J155 : St → Option (Int32 × St)) => if a5 = 0 then if p4 ≤ a7 then (J155 u11) else (J157 2 u11) else (J155 u11)))
def bX6_read_90 (F : Nat) (p1 : Int32) (p3 : Int32) (a7 : Int32) (J138 : St → Option (Int32 × St)) (self18 : Int32 → St → Option (Int32 × St)) (x16 : Int32) (u17 : St) : Option (Int32 × St) :=
  if a7 ≤ x16 then (J138 u17) else bd (pX4_cell F p1 (p3 + (2 * x16)) u17) (fun (r20 : Int32) (u19 : St) => bd (pX4_cell F p1 ((p3 + (2 * x16)) + 1) u19) (fun (r22 : Int32) (u21 : St) => bd (pX6_hearForGood F r20 r22 u21) (fun (r24 : Int32) (u23 : St) => (self18 (x16 + 1) u23))))
def pX6_read (F : Nat) (p1 : Int32) (p2 : Int32) (p3 : Int32) (p4 : Int32) (u : St) : Option (Int32 × St) :=
  bd (pX6_isSheet F p1 p2 u) (fun (r2 : Int32) (u1 : St) => if r2 = 0 then some ((-1), u1) else bd (pX6_isIn F (Int32.toInt64 p4) 0 20 u1) (fun (r4 : Int32) (u3 : St) => if r4 = 0 then some ((-1), u3) else jn (fun (a5 : Int32) (u6 : St) => jn (fun (a7 : Int32) (u8 : St) => bd (pX6_pairsAccepted F p1 p3 a7 u8) (fun (r10 : Int32) (u9 : St) => if a7 ≤ r10 then jn (jX6_read_138 F p4 a5 a7) (fun (J138 : St → Option (Int32 × St)) => (lq1 (bX6_read_90 F p1 p3 a7 J138) F 0 u9)) else some (((-20) - r10), u9))) (fun (J62 : Int32 → St → Option (Int32 × St)) => if a5 = 0 then bd (pX4_wholePairs F p1 p3 p4 u6) (fun (r26 : Int32) (u25 : St) => (J62 r26 u25)) else (J62 0 u6))) (fun (J40 : Int32 → St → Option (Int32 × St)) => if p4 = 0 then (J40 0 u3) else bd (pX4_faultAs F p1 p2 u3) (fun (r28 : Int32) (u27 : St) => (J40 r28 u27)))))
set_option maxRecDepth 100000 in
set_option maxHeartbeats 4000000 in
theorem tX6_read {l : Launch} {D : va_G} {cI cZ : ClassId} {ad : Nat → Nat} {tBURNS tFLAME_BOUNDS : Nat} {tS : Option Nat} {adK adV : Nat → Nat} (F : Nat) (p1 : Int32) (p2 : Int32) (p3 : Int32) (p4 : Int32) (u : St) : CtI l D [(cI, .int), (cZ, .boolean)] (wX ad cI cZ) (EX tBURNS tFLAME_BOUNDS tS adK adV) yX6_read wsX6_read ({ frames := 6, cells := 0, slots := 0, locals := 130 } : Room) [.ref (ad 0), .int p1, .int p2, .int p3, .int p4] u (pX6_read F p1 p2 p3 p4 u) := by
  refine ctI_of (own := RX6) (cc := cX6_read) (n := 9) (ret := (some .int)) (by decide) rfl rfl (Nat.le_of_ble_eq_true rfl) (lv := [(0, .ref (ad 0)), (1, .int p1), (2, .int p2), (3, .int p3), (4, .int p4)]) rfl (fun C => ?_)
  have iX6 : ∀ w ∈ wsX60, w ∈ wsX6_read := fun w h => List.mem_cons_of_mem _ (List.mem_append_right _ (inlX6 w h))
  rw [pX6_read]
  refine g_iload_n C 0 1 dX6_read_0 rfl ?_
  refine g_iload_n C 1 2 dX6_read_1 rfl ?_
  refine g_callSi (st := []) (As := [.int p1, .int p2]) C EX_ok EX_vm 2 2 (tX6_isSheet F p1 p2 u) rfl gX6_read_X6_isSheet rfl rfl rfl (by decide +kernel) ⟨Nat.le_of_ble_eq_true rfl, Nat.le_of_ble_eq_true rfl⟩ rfl (Nat.le_of_ble_eq_true rfl) dX6_read_2 (fun r2 u1 => ?_)
  refine g_if_eq C 5 20 dX6_read_5 (by decide) ?_ ?_
  · skip
    refine g_iconst C 20 (-1) dX6_read_20 rfl ?_
    exact g_iret C 21 dX6_read_21
  · skip
    refine g_iload C 8 4 dX6_read_8 rfl ?_
    refine g_i2l C 10 dX6_read_10 ?_
    refine g_iconst C 11 0 dX6_read_11 rfl ?_
    refine g_bipush C 12 20 dX6_read_12 rfl ?_
    refine g_callSi (st := []) (As := [.long (Int32.toInt64 p4), .int 0, .int 20]) C EX_ok EX_vm 14 3 (tX6_isIn F (Int32.toInt64 p4) 0 20 u1) rfl gX6_read_X6_isIn rfl rfl rfl (by decide +kernel) ⟨Nat.le_of_ble_eq_true rfl, Nat.le_of_ble_eq_true rfl⟩ rfl (Nat.le_of_ble_eq_true rfl) dX6_read_14 (fun r4 u3 => ?_)
    refine g_if_ne C 17 22 dX6_read_17 (by decide) ?_ ?_
    · skip
      refine g_iload C 22 4 dX6_read_22 rfl ?_
      refine g_jn1 40 (fun (a5 : Int32) => [(0, .ref (ad 0)), (1, .int p1), (3, .int p3), (4, .int p4)]) (fun (a5 : Int32) => [.int a5]) (fun a5 u6 => ?_) (fun J40 hJ40 => ?_)
      · skip
        refine g_istore C 40 [(5, .int a5), (0, .ref (ad 0)), (1, .int p1), (3, .int p3), (4, .int p4)] dX6_read_40 (by decide) rfl ?_
        refine g_iload C 42 0 dX6_read_42 rfl ?_
        refine g_jn1 62 (fun (a7 : Int32) => [(0, .ref (ad 0)), (1, .int p1), (3, .int p3), (4, .int p4), (5, .int a5)]) (fun (a7 : Int32) => [.int a7]) (fun a7 u8 => ?_) (fun J62 hJ62 => ?_)
        · skip
          refine g_istore C 62 [(6, .int a7), (0, .ref (ad 0)), (1, .int p1), (3, .int p3), (4, .int p4), (5, .int a5)] dX6_read_62 (by decide) rfl ?_
          refine g_aload_n C 64 1 dX6_read_64 rfl ?_
          refine g_iload_n C 65 2 dX6_read_65 rfl ?_
          refine g_iload_n C 66 3 dX6_read_66 rfl ?_
          refine g_iload C 67 0 dX6_read_67 rfl ?_
          refine g_callVi (st := []) (As := [.int p1, .int p3, .int a7]) C EX_ok EX_vm 69 0 3 (tX6_pairsAccepted F p1 p3 a7 u8) rfl gX6_read_X6_pairsAccepted rfl rfl rfl (by decide +kernel) ⟨Nat.le_of_ble_eq_true rfl, Nat.le_of_ble_eq_true rfl⟩ rfl rfl rfl (Nat.le_of_ble_eq_true rfl) dX6_read_69 (fun r10 u9 => ?_)
          refine g_istore C 72 [(7, .int r10), (6, .int a7), (0, .ref (ad 0)), (1, .int p1), (3, .int p3), (4, .int p4), (5, .int a5)] dX6_read_72 (by decide) rfl ?_
          refine g_iload C 74 0 dX6_read_74 rfl ?_
          refine g_iload C 76 1 dX6_read_76 rfl ?_
          refine g_icmp_ge C 78 87 dX6_read_78 (by decide) ?_ ?_
          · skip
            refine g_iconst C 87 0 dX6_read_87 rfl ?_
            refine g_istore C 88 [(8, .int 0), (7, .int r10), (6, .int a7), (0, .ref (ad 0)), (1, .int p1), (3, .int p3), (4, .int p4), (5, .int a5)] dX6_read_88 (by decide) rfl ?_
            refine g_jn0 138 ([(0, .ref (ad 0)), (4, .int p4), (5, .int a5), (6, .int a7)]) ([]) (fun u11 => ?_) (fun J138 hJ138 => ?_)
            · skip
              rw [jX6_read_138]
              refine g_aload_n C 138 0 dX6_read_138 rfl ?_
              refine g_iload C 139 2 dX6_read_139 rfl ?_
              refine g_jn1 157 (fun (a12 : Int32) => [(6, .int a7)]) (fun (a12 : Int32) => [.int a12, .ref (ad 0)]) (fun a12 u13 => ?_) (fun J157 hJ157 => ?_)
              · skip
                refine pfX_X6_lastTorn C 157 iX6 (List.mem_cons_of_mem _ (List.mem_append_right _ wgL_2_19.1)) dX6_read_157 (fun u14 => ?_)
                refine g_iload C 160 0 dX6_read_160 rfl ?_
                exact g_iret C 162 dX6_read_162
              · skip
                refine g_jn0 155 ([(5, .int a5), (6, .int a7)]) ([.ref (ad 0)]) (fun u15 => ?_) (fun J155 hJ155 => ?_)
                · skip
                  refine g_iload C 155 0 dX6_read_155 rfl ?_
                  exact g_sub _ [1] rfl (hJ157 a5 u15)
                · skip
                  refine g_if_ne C 141 155 dX6_read_141 (by decide) ?_ ?_
                  · skip
                    exact g_sub _ [2, 3] rfl (hJ155 u11)
                  · skip
                    refine g_iload C 144 3 dX6_read_144 rfl ?_
                    refine g_iload C 146 1 dX6_read_146 rfl ?_
                    refine g_icmp_ge C 148 155 dX6_read_148 (by decide) ?_ ?_
                    · skip
                      exact g_sub _ [2, 3] rfl (hJ155 u11)
                    · skip
                      refine g_iconst C 151 2 dX6_read_151 rfl ?_
                      refine g_goto C 152 157 dX6_read_152 (by decide) ?_
                      exact g_sub _ [3] rfl (hJ157 2 u11)
            · skip
              refine g_sub _ [3, 4, 5, 6, 7, 2, 0] rfl ?_
              refine g_lq1 (fun (x16 : Int32) => [(0, .ref (ad 0)), (1, .int p1), (3, .int p3), (4, .int p4), (5, .int a5), (6, .int a7), (8, .int x16)]) (fun self18 hself18 x16 u17 => ?_) F 0 u9
              rw [bX6_read_90]
              refine g_iload C 90 6 dX6_read_90 rfl ?_
              refine g_iload C 92 5 dX6_read_92 rfl ?_
              refine g_icmp_ge C 94 138 dX6_read_94 (by decide) ?_ ?_
              · skip
                exact g_sub _ [0, 3, 4, 5] rfl (hJ138 u17)
              · skip
                refine g_aload_n C 97 0 dX6_read_97 rfl ?_
                refine g_aload_n C 98 0 dX6_read_98 rfl ?_
                refine gfX_X6_sheets C 99 iX6 (List.mem_cons_of_mem _ (List.mem_append_right _ wgL_2_15.1)) dX6_read_99 ?_
                refine g_iload_n C 102 1 dX6_read_102 rfl ?_
                refine g_iload_n C 103 2 dX6_read_103 rfl ?_
                refine g_iconst C 104 2 dX6_read_104 rfl ?_
                refine g_iload C 105 6 dX6_read_105 rfl ?_
                refine g_imul C 107 dX6_read_107 ?_
                refine g_iadd C 108 dX6_read_108 ?_
                refine g_callVi (st := [.ref (ad 0)]) (As := [.int p1, .int (p3 + (2 * x16))]) C EX_ok EX_vm 109 9 2 (tX4_cell F p1 (p3 + (2 * x16)) u17) rfl gX6_read_X4_cell rfl rfl rfl (by decide +kernel) ⟨Nat.le_of_ble_eq_true rfl, Nat.le_of_ble_eq_true rfl⟩ rfl rfl rfl (Nat.le_of_ble_eq_true rfl) dX6_read_109 (fun r20 u19 => ?_)
                refine g_aload_n C 112 0 dX6_read_112 rfl ?_
                refine gfX_X6_sheets C 113 iX6 (List.mem_cons_of_mem _ (List.mem_append_right _ wgL_2_15.1)) dX6_read_113 ?_
                refine g_iload_n C 116 1 dX6_read_116 rfl ?_
                refine g_iload_n C 117 2 dX6_read_117 rfl ?_
                refine g_iconst C 118 2 dX6_read_118 rfl ?_
                refine g_iload C 119 6 dX6_read_119 rfl ?_
                refine g_imul C 121 dX6_read_121 ?_
                refine g_iadd C 122 dX6_read_122 ?_
                refine g_iconst C 123 1 dX6_read_123 rfl ?_
                refine g_iadd C 124 dX6_read_124 ?_
                refine g_callVi (st := [.int r20, .ref (ad 0)]) (As := [.int p1, .int ((p3 + (2 * x16)) + 1)]) C EX_ok EX_vm 125 9 2 (tX4_cell F p1 ((p3 + (2 * x16)) + 1) u19) rfl gX6_read_X4_cell rfl rfl rfl (by decide +kernel) ⟨Nat.le_of_ble_eq_true rfl, Nat.le_of_ble_eq_true rfl⟩ rfl rfl rfl (Nat.le_of_ble_eq_true rfl) dX6_read_125 (fun r22 u21 => ?_)
                refine g_callVi (st := []) (As := [.int r20, .int r22]) C EX_ok EX_vm 128 0 2 (tX6_hearForGood F r20 r22 u21) rfl gX6_read_X6_hearForGood rfl rfl rfl (by decide +kernel) ⟨Nat.le_of_ble_eq_true rfl, Nat.le_of_ble_eq_true rfl⟩ rfl rfl rfl (Nat.le_of_ble_eq_true rfl) dX6_read_128 (fun r24 u23 => ?_)
                refine g_pop C 131 dX6_read_131 rfl ?_
                refine g_iinc C 132 6 [(8, .int (x16 + 1)), (0, .ref (ad 0)), (1, .int p1), (3, .int p3), (4, .int p4), (5, .int a5), (6, .int a7)] dX6_read_132 rfl rfl (by decide) rfl ?_
                refine g_goto C 135 90 dX6_read_135 (by decide) ?_
                exact g_sub _ [1, 2, 3, 4, 5, 6, 0] rfl (hself18 (x16 + 1) u23)
          · skip
            refine g_bipush C 81 (-20) dX6_read_81 rfl ?_
            refine g_iload C 83 0 dX6_read_83 rfl ?_
            refine g_isub C 85 dX6_read_85 ?_
            exact g_iret C 86 dX6_read_86
        · skip
          refine g_if_ne C 44 61 dX6_read_44 (by decide) ?_ ?_
          · skip
            refine g_iconst C 61 0 dX6_read_61 rfl ?_
            exact g_sub _ [1, 2, 3, 4, 0] rfl (hJ62 0 u6)
          · skip
            refine g_aload_n C 47 1 dX6_read_47 rfl ?_
            refine gfX_X6_sheets C 48 iX6 (List.mem_cons_of_mem _ (List.mem_append_right _ wgL_2_15.1)) dX6_read_48 ?_
            refine g_iload_n C 51 2 dX6_read_51 rfl ?_
            refine g_iload_n C 52 3 dX6_read_52 rfl ?_
            refine g_iload C 53 4 dX6_read_53 rfl ?_
            refine g_callVi (st := []) (As := [.int p1, .int p3, .int p4]) C EX_ok EX_vm 55 9 3 (tX4_wholePairs F p1 p3 p4 u6) rfl gX6_read_X4_wholePairs rfl rfl rfl (by decide +kernel) ⟨Nat.le_of_ble_eq_true rfl, Nat.le_of_ble_eq_true rfl⟩ rfl rfl rfl (Nat.le_of_ble_eq_true rfl) dX6_read_55 (fun r26 u25 => ?_)
            refine g_goto C 58 62 dX6_read_58 (by decide) ?_
            exact g_sub _ [1, 2, 3, 4, 0] rfl (hJ62 r26 u25)
      · skip
        refine g_if_ne C 24 31 dX6_read_24 (by decide) ?_ ?_
        · skip
          refine g_aload_n C 31 0 dX6_read_31 rfl ?_
          refine gfX_X6_sheets C 32 iX6 (List.mem_cons_of_mem _ (List.mem_append_right _ wgL_2_15.1)) dX6_read_32 ?_
          refine g_iload_n C 35 1 dX6_read_35 rfl ?_
          refine g_iload_n C 36 2 dX6_read_36 rfl ?_
          refine g_callVi (st := []) (As := [.int p1, .int p2]) C EX_ok EX_vm 37 9 2 (tX4_faultAs F p1 p2 u3) rfl gX6_read_X4_faultAs rfl rfl rfl (by decide +kernel) ⟨Nat.le_of_ble_eq_true rfl, Nat.le_of_ble_eq_true rfl⟩ rfl rfl rfl (Nat.le_of_ble_eq_true rfl) dX6_read_37 (fun r28 u27 => ?_)
          exact g_sub _ [0, 1, 3, 4] rfl (hJ40 r28 u27)
        · skip
          refine g_iconst C 27 0 dX6_read_27 rfl ?_
          refine g_goto C 28 40 dX6_read_28 (by decide) ?_
          exact g_sub _ [0, 1, 3, 4] rfl (hJ40 0 u3)
    · skip
      refine g_iconst C 20 (-1) dX6_read_20 rfl ?_
      exact g_iret C 21 dX6_read_21
def pX6_torn (F : Nat)  (u : St) : Option (Int32 × St) :=
  some ((u.1 16), u)
set_option maxRecDepth 100000 in
set_option maxHeartbeats 4000000 in
theorem tX6_torn {l : Launch} {D : va_G} {cI cZ : ClassId} {ad : Nat → Nat} {tBURNS tFLAME_BOUNDS : Nat} {tS : Option Nat} {adK adV : Nat → Nat} (F : Nat)  (u : St) : CtI l D [(cI, .int), (cZ, .boolean)] (wX ad cI cZ) (EX tBURNS tFLAME_BOUNDS tS adK adV) yX6_torn wsX6_torn ({ frames := 0, cells := 0, slots := 0, locals := 0 } : Room) [.ref (ad 0)] u (pX6_torn F u) := by
  refine ctI_of (own := RX6) (cc := cX6_torn) (n := 1) (ret := (some .int)) (by decide) rfl rfl (Nat.le_of_ble_eq_true rfl) (lv := [(0, .ref (ad 0))]) rfl (fun C => ?_)
  have iX6 : ∀ w ∈ wsX60, w ∈ wsX6_torn := fun w h => List.mem_cons_of_mem _ (List.mem_append_right _ (inlX6 w h))
  rw [pX6_torn]
  refine g_aload_n C 0 0 dX6_torn_0 rfl ?_
  refine gfX_X6_lastTorn C 1 iX6 (List.mem_cons_of_mem _ (List.mem_append_right _ wgL_2_19.1)) dX6_torn_1 ?_
  exact g_iret C 4 dX6_torn_4
def pX6_count (F : Nat) (p1 : Int32) (u : St) : Option (Int32 × St) :=
  if p1 = 0 then some ((u.1 29), u) else if p1 = 1 then gd (inb 0 2) (jn (fun (a1 : Int32) (u2 : St) => gd (inb 1 2) (if (u2.2 66 (Int32.toNatClampNeg 1)) = 0 then some ((a1 + 0), u2) else some ((a1 + 1), u2))) (fun (J62 : Int32 → St → Option (Int32 × St)) => if (u.2 66 (Int32.toNatClampNeg 0)) = 0 then (J62 0 u) else (J62 1 u))) else if p1 = 2 then some ((u.1 17), u) else if p1 = 3 then bd (pX4_isNothing F 0 u) (fun (r4 : Int32) (u3 : St) => if r4 = 0 then gd (inb 0 4) (some ((u3.2 65 (Int32.toNatClampNeg 0)), u3)) else some ((-4), u3)) else if p1 = 4 then bd (pX0_sumOf F 0 2 u) (fun (r6 : Int32) (u5 : St) => some (r6, u5)) else if p1 = 5 then bd (pX6_bitsOf F 4 (u.1 0) 1 u) (fun (r8 : Int32) (u7 : St) => bd (pJ6_bitCount_0f7a4 F r8 u7) (fun (r10 : Int32) (u9 : St) => some (r10, u9))) else some ((-1), u)
set_option maxRecDepth 100000 in
set_option maxHeartbeats 4000000 in
theorem tX6_count {l : Launch} {D : va_G} {cI cZ : ClassId} {ad : Nat → Nat} {tBURNS tFLAME_BOUNDS : Nat} {tS : Option Nat} {adK adV : Nat → Nat} (F : Nat) (p1 : Int32) (u : St) : CtI l D [(cI, .int), (cZ, .boolean)] (wX ad cI cZ) (EX tBURNS tFLAME_BOUNDS tS adK adV) yX6_count wsX6_count ({ frames := 1, cells := 0, slots := 0, locals := 24 } : Room) [.ref (ad 0), .int p1] u (pX6_count F p1 u) := by
  refine ctI_of (own := RX6) (cc := cX6_count) (n := 2) (ret := (some .int)) (by decide) rfl rfl (Nat.le_of_ble_eq_true rfl) (lv := [(0, .ref (ad 0)), (1, .int p1)]) rfl (fun C => ?_)
  have iX0 : ∀ w ∈ wsX00, w ∈ wsX6_count := fun w h => List.mem_cons_of_mem _ (List.mem_append_right _ (inlX0 w h))
  have iX1 : ∀ w ∈ wsX10, w ∈ wsX6_count := fun w h => List.mem_cons_of_mem _ (List.mem_append_right _ (inlX1 w h))
  have iX2 : ∀ w ∈ wsX20, w ∈ wsX6_count := fun w h => List.mem_cons_of_mem _ (List.mem_append_right _ (inlX2 w h))
  have iX4 : ∀ w ∈ wsX40, w ∈ wsX6_count := fun w h => List.mem_cons_of_mem _ (List.mem_append_right _ (inlX4 w h))
  have iX6 : ∀ w ∈ wsX60, w ∈ wsX6_count := fun w h => List.mem_cons_of_mem _ (List.mem_append_right _ (inlX6 w h))
  rw [pX6_count]
  refine g_iload_n C 0 1 dX6_count_0 rfl ?_
  refine g_tsw C 1 40 0 dX6_count_1 (by decide) rfl (by decide) ?_ (fun q0 => ?_)
  · skip
    refine g_aload_n C 40 0 dX6_count_40 rfl ?_
    refine gfX_X6_memory C 41 iX6 (List.mem_cons_of_mem _ (List.mem_append_right _ wgL_2_11.1)) dX6_count_41 ?_
    refine gfX_X1_size C 44 iX1 (List.mem_cons_of_mem _ (List.mem_append_right _ wgL_7_14.1)) dX6_count_44 ?_
    exact g_iret C 47 dX6_count_47
  refine g_tsw C 1 48 1 dX6_count_1 (by decide) rfl (by decide) ?_ (fun q1 => ?_)
  · skip
    refine g_aload_n C 48 0 dX6_count_48 rfl ?_
    refine gfX_X6_kept C 49 iX6 (List.mem_cons_of_mem _ (List.mem_append_right _ wgL_1_19.1)) dX6_count_49 ?_
    refine g_iconst C 52 0 dX6_count_52 rfl ?_
    refine g_zald C 53 (10 + 66) 1 (wX_arrz 66 (by decide) (by decide)) rfl dX6_count_53 ?_
    refine g_jn1 62 (fun (a1 : Int32) => [(0, .ref (ad 0))]) (fun (a1 : Int32) => [.int a1]) (fun a1 u2 => ?_) (fun J62 hJ62 => ?_)
    · skip
      refine g_aload_n C 62 0 dX6_count_62 rfl ?_
      refine gfX_X6_kept C 63 iX6 (List.mem_cons_of_mem _ (List.mem_append_right _ wgL_1_19.1)) dX6_count_63 ?_
      refine g_iconst C 66 1 dX6_count_66 rfl ?_
      refine g_zald C 67 (10 + 66) 1 (wX_arrz 66 (by decide) (by decide)) rfl dX6_count_67 ?_
      refine g_if_eq C 68 75 dX6_count_68 (by decide) ?_ ?_
      · skip
        refine g_iconst C 75 0 dX6_count_75 rfl ?_
        refine g_iadd C 76 dX6_count_76 ?_
        exact g_iret C 77 dX6_count_77
      · skip
        refine g_iconst C 71 1 dX6_count_71 rfl ?_
        refine g_goto C 72 76 dX6_count_72 (by decide) ?_
        refine g_iadd C 76 dX6_count_76 ?_
        exact g_iret C 77 dX6_count_77
    · skip
      refine g_if_eq C 54 61 dX6_count_54 (by decide) ?_ ?_
      · skip
        refine g_iconst C 61 0 dX6_count_61 rfl ?_
        exact g_sub _ [0] rfl (hJ62 0 u)
      · skip
        refine g_iconst C 57 1 dX6_count_57 rfl ?_
        refine g_goto C 58 62 dX6_count_58 (by decide) ?_
        exact g_sub _ [0] rfl (hJ62 1 u)
  refine g_tsw C 1 78 2 dX6_count_1 (by decide) rfl (by decide) ?_ (fun q2 => ?_)
  · skip
    refine g_aload_n C 78 0 dX6_count_78 rfl ?_
    refine gfX_X6_reader C 79 iX6 (List.mem_cons_of_mem _ (List.mem_append_right _ wgL_1_23.1)) dX6_count_79 ?_
    refine gfX_X2_size C 82 iX2 (List.mem_cons_of_mem _ (List.mem_append_right _ wgL_6_7.1)) dX6_count_82 ?_
    exact g_iret C 85 dX6_count_85
  refine g_tsw C 1 86 3 dX6_count_1 (by decide) rfl (by decide) ?_ (fun q3 => ?_)
  · skip
    refine g_aload_n C 86 0 dX6_count_86 rfl ?_
    refine gfX_X6_sheets C 87 iX6 (List.mem_cons_of_mem _ (List.mem_append_right _ wgL_2_15.1)) dX6_count_87 ?_
    refine g_iconst C 90 0 dX6_count_90 rfl ?_
    refine g_callVi (st := []) (As := [.int 0]) C EX_ok EX_vm 91 9 1 (tX4_isNothing F 0 u) rfl gX6_count_X4_isNothing rfl rfl rfl (by decide +kernel) ⟨Nat.le_of_ble_eq_true rfl, Nat.le_of_ble_eq_true rfl⟩ rfl rfl rfl (Nat.le_of_ble_eq_true rfl) dX6_count_91 (fun r4 u3 => ?_)
    refine g_if_eq C 94 102 dX6_count_94 (by decide) ?_ ?_
    · skip
      refine g_aload_n C 102 0 dX6_count_102 rfl ?_
      refine gfX_X6_sheets C 103 iX6 (List.mem_cons_of_mem _ (List.mem_append_right _ wgL_2_15.1)) dX6_count_103 ?_
      refine gfX_X4_size C 106 iX4 (List.mem_cons_of_mem _ (List.mem_append_right _ wgL_46_13.1)) dX6_count_106 ?_
      refine g_iconst C 109 0 dX6_count_109 rfl ?_
      refine g_iald C 110 (10 + 65) 0 (wX_arr 65 (by decide)) rfl dX6_count_110 ?_
      exact g_iret C 111 dX6_count_111
    · skip
      refine g_bipush C 97 (-4) dX6_count_97 rfl ?_
      refine g_goto C 99 111 dX6_count_99 (by decide) ?_
      exact g_iret C 111 dX6_count_111
  refine g_tsw C 1 112 4 dX6_count_1 (by decide) rfl (by decide) ?_ (fun q4 => ?_)
  · skip
    refine g_aload_n C 112 0 dX6_count_112 rfl ?_
    refine gfX_X6_court C 113 iX6 (List.mem_cons_of_mem _ (List.mem_append_right _ wgL_1_15.1)) dX6_count_113 ?_
    refine g_aload_n C 116 0 dX6_count_116 rfl ?_
    refine gfX_X6_court C 117 iX6 (List.mem_cons_of_mem _ (List.mem_append_right _ wgL_1_15.1)) dX6_count_117 ?_
    refine gfX_X0_guard 0 (by decide) C 120 iX0 (List.mem_cons_of_mem _ (List.mem_append_right _ wgL_19_11.1)) dX6_count_120 ?_
    refine g_callVi (st := []) (As := [.ref (ad (10 + 2))]) C EX_ok EX_vm 123 1 1 (tX0_sumOf F 0 (by decide) 2 (by decide) u) rfl gX6_count_X0_sumOf rfl rfl rfl (by decide +kernel) ⟨Nat.le_of_ble_eq_true rfl, Nat.le_of_ble_eq_true rfl⟩ (wX_X0 ad cI cZ _ 0 (by decide)) rfl rfl (Nat.le_of_ble_eq_true rfl) dX6_count_123 (fun r6 u5 => ?_)
    exact g_iret C 126 dX6_count_126
  refine g_tsw C 1 127 5 dX6_count_1 (by decide) rfl (by decide) ?_ (fun q5 => ?_)
  · skip
    refine g_aload_n C 127 0 dX6_count_127 rfl ?_
    refine gfX_X6_court C 128 iX6 (List.mem_cons_of_mem _ (List.mem_append_right _ wgL_1_15.1)) dX6_count_128 ?_
    refine gfX_X0_appealed 0 (by decide) C 131 iX0 (List.mem_cons_of_mem _ (List.mem_append_right _ wgL_20_12.1)) dX6_count_131 ?_
    refine g_aload_n C 134 0 dX6_count_134 rfl ?_
    refine gfX_X6_court C 135 iX6 (List.mem_cons_of_mem _ (List.mem_append_right _ wgL_1_15.1)) dX6_count_135 ?_
    refine gfX_X0_cases 0 (by decide) C 138 iX0 (List.mem_cons_of_mem _ (List.mem_append_right _ wgL_18_5.1)) dX6_count_138 ?_
    refine g_iconst C 141 1 dX6_count_141 rfl ?_
    refine g_callSi (st := []) (As := [.ref (ad (10 + 4)), .int (u.1 0), .int 1]) C EX_ok EX_vm 142 3 (tX6_bitsOf F 4 (by decide) (u.1 0) 1 u) rfl gX6_count_X6_bitsOf rfl rfl rfl (by decide +kernel) ⟨Nat.le_of_ble_eq_true rfl, Nat.le_of_ble_eq_true rfl⟩ rfl (Nat.le_of_ble_eq_true rfl) dX6_count_142 (fun r8 u7 => ?_)
    refine g_callSi (st := []) (As := [.int r8]) C EX_ok EX_vm 145 1 (tJ6_bitCount_0f7a4 F r8 u7) rfl gX6_count_J6_bitCount_0f7a4 rfl rfl rfl (by decide +kernel) ⟨Nat.le_of_ble_eq_true rfl, Nat.le_of_ble_eq_true rfl⟩ rfl (Nat.le_of_ble_eq_true rfl) dX6_count_145 (fun r10 u9 => ?_)
    exact g_iret C 148 dX6_count_148
  refine g_tswD C 1 149 dX6_count_1 (by have r0 := lv_neT (a := 0) q0 rfl; have r1 := lv_neT (a := 1) q1 rfl; have r2 := lv_neT (a := 2) q2 rfl; have r3 := lv_neT (a := 3) q3 rfl; have r4 := lv_neT (a := 4) q4 rfl; have r5 := lv_neT (a := 5) q5 rfl; omega) (by decide) ?_
  refine g_iconst C 149 (-1) dX6_count_149 rfl ?_
  exact g_iret C 150 dX6_count_150
