def pX2_takesDraught (F : Nat)  (u : St) : Option (Int32 × St) :=
  if (u.1 14) < 4 then bd (pX2_readsNumber F 0 20 u) (fun (r2 : Int32) (u1 : St) => if r2 = 0 then some (0, u1) else vl (u1.1 23) (fun v3 => bd (pX2_readsNumber F 1 9 u1) (fun (r5 : Int32) (u4 : St) => if r5 = 0 then some (0, u4) else bd (pX0_addDraught F 3 v3 (u4.1 23) u4) (fun (r7 : Int32) (u6 : St) => bd (pX2_readsNext F u6) (fun (r9 : Int32) (u8 : St) => if r9 = 0 then some (0, u8) else bd (pX2_takesSign F u8) (fun (r11 : Int32) (u10 : St) => if r11 = 0 then some (0, u10) else some (1, u10))))))) else bd (pX2_fails F 5 u) (fun (r13 : Int32) (u12 : St) => gd (z01 r13) (some (r13, u12)))
set_option maxRecDepth 100000 in
set_option maxHeartbeats 4000000 in
theorem tX2_takesDraught {l : Launch} {D : va_G} {cI cZ : ClassId} {ad : Nat → Nat} {tBURNS tFLAME_BOUNDS : Nat} {tS : Option Nat} {adK adV : Nat → Nat} (F : Nat)  (u : St) : CtI l D [(cI, .int), (cZ, .boolean)] (wX ad cI cZ) (EX tBURNS tFLAME_BOUNDS tS adK adV) yX2_takesDraught wsX2_takesDraught ({ frames := 3, cells := 0, slots := 0, locals := 67 } : Room) [.ref (ad 5)] u (pX2_takesDraught F u) := by
  refine ctI_of (own := RX2) (cc := cX2_takesDraught) (n := 2) (ret := (some .boolean)) (by decide) rfl rfl (Nat.le_of_ble_eq_true rfl) (lv := [(0, .ref (ad 5))]) rfl (fun C => ?_)
  have iX0 : ∀ w ∈ wsX00, w ∈ wsX2_takesDraught := fun w h => List.mem_cons_of_mem _ (List.mem_append_right _ (inlX0 w h))
  have iX2 : ∀ w ∈ wsX20, w ∈ wsX2_takesDraught := fun w h => List.mem_cons_of_mem _ (List.mem_append_right _ (inlX2 w h))
  rw [pX2_takesDraught]
  refine g_aload_n C 0 0 dX2_takesDraught_0 rfl ?_
  refine gfX_X2_told C 1 iX2 (List.mem_cons_of_mem _ (List.mem_append_right _ wgL_3_21.1)) dX2_takesDraught_1 ?_
  refine gfX_X0_draughts 3 (by decide) C 4 iX0 (List.mem_cons_of_mem _ (List.mem_append_right _ wgL_12_15.1)) dX2_takesDraught_4 ?_
  refine g_iconst C 7 4 dX2_takesDraught_7 rfl ?_
  refine g_icmp_lt C 8 17 dX2_takesDraught_8 (by decide) ?_ ?_
  · skip
    refine g_aload_n C 17 0 dX2_takesDraught_17 rfl ?_
    refine g_iconst C 18 0 dX2_takesDraught_18 rfl ?_
    refine g_bipush C 19 20 dX2_takesDraught_19 rfl ?_
    refine g_callVi (st := []) (As := [.int 0, .int 20]) C EX_ok EX_vm 21 5 2 (tX2_readsNumber F 0 20 u) rfl gX2_takesDraught_X2_readsNumber rfl rfl rfl (by decide +kernel) ⟨Nat.le_of_ble_eq_true rfl, Nat.le_of_ble_eq_true rfl⟩ rfl rfl rfl (Nat.le_of_ble_eq_true rfl) dX2_takesDraught_21 (fun r2 u1 => ?_)
    refine g_if_ne C 24 29 dX2_takesDraught_24 (by decide) ?_ ?_
    · skip
      refine g_aload_n C 29 0 dX2_takesDraught_29 rfl ?_
      refine gfX_X2_number C 30 iX2 (List.mem_cons_of_mem _ (List.mem_append_right _ wgL_4_4.1)) dX2_takesDraught_30 ?_
      refine g_istore_nV C 33 (fun v3 => [(1, .int v3), (0, .ref (ad 5))]) dX2_takesDraught_33 (by decide) (fun _ => rfl) (fun v3 => ?_)
      refine g_aload_n C 34 1 dX2_takesDraught_34 rfl ?_
      refine g_iconst C 35 1 dX2_takesDraught_35 rfl ?_
      refine g_bipush C 36 9 dX2_takesDraught_36 rfl ?_
      refine g_callVi (st := []) (As := [.int 1, .int 9]) C EX_ok EX_vm 38 5 2 (tX2_readsNumber F 1 9 u1) rfl gX2_takesDraught_X2_readsNumber rfl rfl rfl (by decide +kernel) ⟨Nat.le_of_ble_eq_true rfl, Nat.le_of_ble_eq_true rfl⟩ rfl rfl rfl (Nat.le_of_ble_eq_true rfl) dX2_takesDraught_38 (fun r5 u4 => ?_)
      refine g_if_ne C 41 46 dX2_takesDraught_41 (by decide) ?_ ?_
      · skip
        refine g_aload_n C 46 1 dX2_takesDraught_46 rfl ?_
        refine gfX_X2_told C 47 iX2 (List.mem_cons_of_mem _ (List.mem_append_right _ wgL_3_21.1)) dX2_takesDraught_47 ?_
        refine g_iload_n C 50 0 dX2_takesDraught_50 rfl ?_
        refine g_aload_n C 51 1 dX2_takesDraught_51 rfl ?_
        refine gfX_X2_number C 52 iX2 (List.mem_cons_of_mem _ (List.mem_append_right _ wgL_4_4.1)) dX2_takesDraught_52 ?_
        refine g_callVi (st := []) (As := [.int v3, .int (u4.1 23)]) C EX_ok EX_vm 55 4 2 (tX0_addDraught F 3 (by decide) v3 (u4.1 23) u4) rfl gX2_takesDraught_X0_addDraught rfl rfl rfl (by decide +kernel) ⟨Nat.le_of_ble_eq_true rfl, Nat.le_of_ble_eq_true rfl⟩ (wX_X0 ad cI cZ _ 3 (by decide)) rfl rfl (Nat.le_of_ble_eq_true rfl) dX2_takesDraught_55 (fun r7 u6 => ?_)
        refine g_pop C 58 dX2_takesDraught_58 rfl ?_
        refine g_aload_n C 59 1 dX2_takesDraught_59 rfl ?_
        refine g_callVi (st := []) (As := []) C EX_ok EX_vm 60 5 0 (tX2_readsNext F u6) rfl gX2_takesDraught_X2_readsNext rfl rfl rfl (by decide +kernel) ⟨Nat.le_of_ble_eq_true rfl, Nat.le_of_ble_eq_true rfl⟩ rfl rfl rfl (Nat.le_of_ble_eq_true rfl) dX2_takesDraught_60 (fun r9 u8 => ?_)
        refine g_if_eq C 63 77 dX2_takesDraught_63 (by decide) ?_ ?_
        · skip
          refine g_iconst C 77 0 dX2_takesDraught_77 rfl ?_
          exact g_nret C 78 rfl dX2_takesDraught_78
        · skip
          refine g_aload_n C 66 1 dX2_takesDraught_66 rfl ?_
          refine g_callVi (st := []) (As := []) C EX_ok EX_vm 67 5 0 (tX2_takesSign F u8) rfl gX2_takesDraught_X2_takesSign rfl rfl rfl (by decide +kernel) ⟨Nat.le_of_ble_eq_true rfl, Nat.le_of_ble_eq_true rfl⟩ rfl rfl rfl (Nat.le_of_ble_eq_true rfl) dX2_takesDraught_67 (fun r11 u10 => ?_)
          refine g_if_eq C 70 77 dX2_takesDraught_70 (by decide) ?_ ?_
          · skip
            refine g_iconst C 77 0 dX2_takesDraught_77 rfl ?_
            exact g_nret C 78 rfl dX2_takesDraught_78
          · skip
            refine g_iconst C 73 1 dX2_takesDraught_73 rfl ?_
            refine g_goto C 74 78 dX2_takesDraught_74 (by decide) ?_
            exact g_nret C 78 rfl dX2_takesDraught_78
      · skip
        refine g_iconst C 44 0 dX2_takesDraught_44 rfl ?_
        exact g_nret C 45 rfl dX2_takesDraught_45
    · skip
      refine g_iconst C 27 0 dX2_takesDraught_27 rfl ?_
      exact g_nret C 28 rfl dX2_takesDraught_28
  · skip
    refine g_aload_n C 11 0 dX2_takesDraught_11 rfl ?_
    refine g_iconst C 12 5 dX2_takesDraught_12 rfl ?_
    refine g_callVi (st := []) (As := [.int 5]) C EX_ok EX_vm 13 5 1 (tX2_fails F 5 u) rfl gX2_takesDraught_X2_fails rfl rfl rfl (by decide +kernel) ⟨Nat.le_of_ble_eq_true rfl, Nat.le_of_ble_eq_true rfl⟩ rfl rfl rfl (Nat.le_of_ble_eq_true rfl) dX2_takesDraught_13 (fun r13 u12 => ?_)
    exact g_zret C 16 dX2_takesDraught_16
def pX0_addHearing (F : Nat) (j : Nat) (p1 : Int32) (p2 : Int32) (u : St) : Option (Int32 × St) :=
  if (u.1 (4 * j + 3)) < 6 then gd (inb (u.1 (4 * j + 3)) 6) (vl (sta u (13 * j + 11) (u.1 (4 * j + 3)) p1) (fun (u1 : St) => gd (inb (u1.1 (4 * j + 3)) 6) (vl (sta u1 (13 * j + 12) (u1.1 (4 * j + 3)) p2) (fun (u2 : St) => vl (stf u2 (4 * j + 3) ((u2.1 (4 * j + 3)) + 1)) (fun (u3 : St) => some (1, u3)))))) else some (0, u)
set_option maxRecDepth 100000 in
set_option maxHeartbeats 4000000 in
theorem tX0_addHearing {l : Launch} {D : va_G} {cI cZ : ClassId} {ad : Nat → Nat} {tBURNS tFLAME_BOUNDS : Nat} {tS : Option Nat} {adK adV : Nat → Nat} (F : Nat) (j : Nat) (hj : j < 4) (p1 : Int32) (p2 : Int32) (u : St) : CtI l D [(cI, .int), (cZ, .boolean)] (wX ad cI cZ) (EX tBURNS tFLAME_BOUNDS tS adK adV) yX0_addHearing wsX0_addHearing ({ frames := 0, cells := 0, slots := 0, locals := 0 } : Room) [.ref (ad (1 + j)), .int p1, .int p2] u (pX0_addHearing F j p1 p2 u) := by
  refine ctI_of (own := RX0) (cc := cX0_addHearing) (n := 3) (ret := (some .boolean)) (by decide) rfl rfl (Nat.le_of_ble_eq_true rfl) (lv := [(0, .ref (ad (1 + j))), (1, .int p1), (2, .int p2)]) rfl (fun C => ?_)
  have iX0 : ∀ w ∈ wsX00, w ∈ wsX0_addHearing := fun w h => List.mem_cons_of_mem _ (List.mem_append_right _ (inlX0 w h))
  rw [pX0_addHearing]
  refine g_aload_n C 0 0 dX0_addHearing_0 rfl ?_
  refine gfX_X0_hearings j hj C 1 iX0 (List.mem_cons_of_mem _ (List.mem_append_right _ wgL_3_2.1)) dX0_addHearing_1 ?_
  refine g_bipush C 4 6 dX0_addHearing_4 rfl ?_
  refine g_icmp_lt C 6 11 dX0_addHearing_6 (by decide) ?_ ?_
  · skip
    refine g_aload_n C 11 0 dX0_addHearing_11 rfl ?_
    refine gfX_X0_docketCase j hj C 12 iX0 (List.mem_cons_of_mem _ (List.mem_append_right _ wgL_3_14.1)) dX0_addHearing_12 ?_
    refine g_aload_n C 15 0 dX0_addHearing_15 rfl ?_
    refine gfX_X0_hearings j hj C 16 iX0 (List.mem_cons_of_mem _ (List.mem_append_right _ wgL_3_2.1)) dX0_addHearing_16 ?_
    refine g_iload_n C 19 1 dX0_addHearing_19 rfl ?_
    refine g_iast C 20 (10 + (13 * j + 11)) 0 (13 * j + 11) (wX_X0_docketCase j hj) (wX_X0_docketCase_set j hj) rfl dX0_addHearing_20 (fun u1 => ?_)
    refine g_aload_n C 21 0 dX0_addHearing_21 rfl ?_
    refine gfX_X0_docketJudge j hj C 22 iX0 (List.mem_cons_of_mem _ (List.mem_append_right _ wgL_3_15.1)) dX0_addHearing_22 ?_
    refine g_aload_n C 25 0 dX0_addHearing_25 rfl ?_
    refine gfX_X0_hearings j hj C 26 iX0 (List.mem_cons_of_mem _ (List.mem_append_right _ wgL_3_2.1)) dX0_addHearing_26 ?_
    refine g_iload_n C 29 2 dX0_addHearing_29 rfl ?_
    refine g_iast C 30 (10 + (13 * j + 12)) 0 (13 * j + 12) (wX_X0_docketJudge j hj) (wX_X0_docketJudge_set j hj) rfl dX0_addHearing_30 (fun u2 => ?_)
    refine g_aload_n C 31 0 dX0_addHearing_31 rfl ?_
    refine g_dup C 32 dX0_addHearing_32 rfl ?_
    refine gfX_X0_hearings j hj C 33 iX0 (List.mem_cons_of_mem _ (List.mem_append_right _ wgL_3_2.1)) dX0_addHearing_33 ?_
    refine g_iconst C 36 1 dX0_addHearing_36 rfl ?_
    refine g_iadd C 37 dX0_addHearing_37 ?_
    refine pfX_X0_hearings j hj C 38 iX0 (List.mem_cons_of_mem _ (List.mem_append_right _ wgL_3_2.1)) dX0_addHearing_38 (fun u3 => ?_)
    refine g_iconst C 41 1 dX0_addHearing_41 rfl ?_
    exact g_nret C 42 rfl dX0_addHearing_42
  · skip
    refine g_iconst C 9 0 dX0_addHearing_9 rfl ?_
    exact g_nret C 10 rfl dX0_addHearing_10
def pX2_takesHearing (F : Nat)  (u : St) : Option (Int32 × St) :=
  bd (pX2_isNumberIn F 0 3 u) (fun (r2 : Int32) (u1 : St) => if r2 = 0 then some (0, u1) else vl (u1.1 23) (fun v3 => bd (pX2_readsNumber F 0 2 u1) (fun (r5 : Int32) (u4 : St) => if r5 = 0 then some (0, u4) else bd (pX0_addHearing F 3 v3 (u4.1 23) u4) (fun (r7 : Int32) (u6 : St) => bd (pX2_readsNext F u6) (fun (r9 : Int32) (u8 : St) => gd (z01 r9) (some (r9, u8)))))))
set_option maxRecDepth 100000 in
set_option maxHeartbeats 4000000 in
theorem tX2_takesHearing {l : Launch} {D : va_G} {cI cZ : ClassId} {ad : Nat → Nat} {tBURNS tFLAME_BOUNDS : Nat} {tS : Option Nat} {adK adV : Nat → Nat} (F : Nat)  (u : St) : CtI l D [(cI, .int), (cZ, .boolean)] (wX ad cI cZ) (EX tBURNS tFLAME_BOUNDS tS adK adV) yX2_takesHearing wsX2_takesHearing ({ frames := 3, cells := 0, slots := 0, locals := 67 } : Room) [.ref (ad 5)] u (pX2_takesHearing F u) := by
  refine ctI_of (own := RX2) (cc := cX2_takesHearing) (n := 2) (ret := (some .boolean)) (by decide) rfl rfl (Nat.le_of_ble_eq_true rfl) (lv := [(0, .ref (ad 5))]) rfl (fun C => ?_)
  have iX2 : ∀ w ∈ wsX20, w ∈ wsX2_takesHearing := fun w h => List.mem_cons_of_mem _ (List.mem_append_right _ (inlX2 w h))
  rw [pX2_takesHearing]
  refine g_aload_n C 0 0 dX2_takesHearing_0 rfl ?_
  refine g_iconst C 1 0 dX2_takesHearing_1 rfl ?_
  refine g_iconst C 2 3 dX2_takesHearing_2 rfl ?_
  refine g_callVi (st := []) (As := [.int 0, .int 3]) C EX_ok EX_vm 3 5 2 (tX2_isNumberIn F 0 3 u) rfl gX2_takesHearing_X2_isNumberIn rfl rfl rfl (by decide +kernel) ⟨Nat.le_of_ble_eq_true rfl, Nat.le_of_ble_eq_true rfl⟩ rfl rfl rfl (Nat.le_of_ble_eq_true rfl) dX2_takesHearing_3 (fun r2 u1 => ?_)
  refine g_if_ne C 6 11 dX2_takesHearing_6 (by decide) ?_ ?_
  · skip
    refine g_aload_n C 11 0 dX2_takesHearing_11 rfl ?_
    refine gfX_X2_number C 12 iX2 (List.mem_cons_of_mem _ (List.mem_append_right _ wgL_4_4.1)) dX2_takesHearing_12 ?_
    refine g_istore_nV C 15 (fun v3 => [(1, .int v3), (0, .ref (ad 5))]) dX2_takesHearing_15 (by decide) (fun _ => rfl) (fun v3 => ?_)
    refine g_aload_n C 16 1 dX2_takesHearing_16 rfl ?_
    refine g_iconst C 17 0 dX2_takesHearing_17 rfl ?_
    refine g_iconst C 18 2 dX2_takesHearing_18 rfl ?_
    refine g_callVi (st := []) (As := [.int 0, .int 2]) C EX_ok EX_vm 19 5 2 (tX2_readsNumber F 0 2 u1) rfl gX2_takesHearing_X2_readsNumber rfl rfl rfl (by decide +kernel) ⟨Nat.le_of_ble_eq_true rfl, Nat.le_of_ble_eq_true rfl⟩ rfl rfl rfl (Nat.le_of_ble_eq_true rfl) dX2_takesHearing_19 (fun r5 u4 => ?_)
    refine g_if_ne C 22 27 dX2_takesHearing_22 (by decide) ?_ ?_
    · skip
      refine g_aload_n C 27 1 dX2_takesHearing_27 rfl ?_
      refine gfX_X2_told C 28 iX2 (List.mem_cons_of_mem _ (List.mem_append_right _ wgL_3_21.1)) dX2_takesHearing_28 ?_
      refine g_iload_n C 31 0 dX2_takesHearing_31 rfl ?_
      refine g_aload_n C 32 1 dX2_takesHearing_32 rfl ?_
      refine gfX_X2_number C 33 iX2 (List.mem_cons_of_mem _ (List.mem_append_right _ wgL_4_4.1)) dX2_takesHearing_33 ?_
      refine g_callVi (st := []) (As := [.int v3, .int (u4.1 23)]) C EX_ok EX_vm 36 4 2 (tX0_addHearing F 3 (by decide) v3 (u4.1 23) u4) rfl gX2_takesHearing_X0_addHearing rfl rfl rfl (by decide +kernel) ⟨Nat.le_of_ble_eq_true rfl, Nat.le_of_ble_eq_true rfl⟩ (wX_X0 ad cI cZ _ 3 (by decide)) rfl rfl (Nat.le_of_ble_eq_true rfl) dX2_takesHearing_36 (fun r7 u6 => ?_)
      refine g_pop C 39 dX2_takesHearing_39 rfl ?_
      refine g_aload_n C 40 1 dX2_takesHearing_40 rfl ?_
      refine g_callVi (st := []) (As := []) C EX_ok EX_vm 41 5 0 (tX2_readsNext F u6) rfl gX2_takesHearing_X2_readsNext rfl rfl rfl (by decide +kernel) ⟨Nat.le_of_ble_eq_true rfl, Nat.le_of_ble_eq_true rfl⟩ rfl rfl rfl (Nat.le_of_ble_eq_true rfl) dX2_takesHearing_41 (fun r9 u8 => ?_)
      exact g_zret C 44 dX2_takesHearing_44
    · skip
      refine g_iconst C 25 0 dX2_takesHearing_25 rfl ?_
      exact g_nret C 26 rfl dX2_takesHearing_26
  · skip
    refine g_iconst C 9 0 dX2_takesHearing_9 rfl ?_
    exact g_nret C 10 rfl dX2_takesHearing_10
def jX2_takesDocket_58 (F : Nat)   (u4 : St) : Option (Int32 × St) :=
  jn (fun (a5 : Int32) (u6 : St) => if a5 = 0 then bd (pX2_takesSign F u6) (fun (r8 : Int32) (u7 : St) => gd (z01 r8) (some (r8, u7))) else bd (pX2_fails F 5 u6) (fun (r10 : Int32) (u9 : St) => gd (z01 r10) (some (r10, u9)))) (fun (J90 : Int32 → St → Option (Int32 × St)) => jn (fun (u11 : St) => (J90 0 u11)) (fun (J89 : St → Option (Int32 × St)) => if (u4.1 15) < 6 then (J89 u4) else if (u4.1 20) = 3 then (J89 u4) else if (u4.1 20) = 0 then (J89 u4) else (J90 1 u4)))
def bX2_takesDocket_29 (F : Nat) (J58 : St → Option (Int32 × St)) (self14 : Int32 → St → Option (Int32 × St)) (x12 : Int32) (u13 : St) : Option (Int32 × St) :=
  if 6 ≤ x12 then (J58 u13) else if (u13.1 20) = 2 then bd (pX2_takesHearing F u13) (fun (r16 : Int32) (u15 : St) => if r16 = 0 then some (0, u15) else (self14 (x12 + 1) u15)) else (J58 u13)
def pX2_takesDocket (F : Nat)  (u : St) : Option (Int32 × St) :=
  if (u.1 19) = 0 then gd (z01 1) (vl (stf u 19 1) (fun (u1 : St) => bd (pX2_readsNext F u1) (fun (r3 : Int32) (u2 : St) => if r3 = 0 then some (0, u2) else jn (jX2_takesDocket_58 F) (fun (J58 : St → Option (Int32 × St)) => (lq1 (bX2_takesDocket_29 F J58) F 0 u2))))) else bd (pX2_fails F 4 u) (fun (r18 : Int32) (u17 : St) => gd (z01 r18) (some (r18, u17)))
set_option maxRecDepth 100000 in
set_option maxHeartbeats 4000000 in
theorem tX2_takesDocket {l : Launch} {D : va_G} {cI cZ : ClassId} {ad : Nat → Nat} {tBURNS tFLAME_BOUNDS : Nat} {tS : Option Nat} {adK adV : Nat → Nat} (F : Nat)  (u : St) : CtI l D [(cI, .int), (cZ, .boolean)] (wX ad cI cZ) (EX tBURNS tFLAME_BOUNDS tS adK adV) yX2_takesDocket wsX2_takesDocket ({ frames := 4, cells := 0, slots := 0, locals := 88 } : Room) [.ref (ad 5)] u (pX2_takesDocket F u) := by
  refine ctI_of (own := RX2) (cc := cX2_takesDocket) (n := 2) (ret := (some .boolean)) (by decide) rfl rfl (Nat.le_of_ble_eq_true rfl) (lv := [(0, .ref (ad 5))]) rfl (fun C => ?_)
  have iX0 : ∀ w ∈ wsX00, w ∈ wsX2_takesDocket := fun w h => List.mem_cons_of_mem _ (List.mem_append_right _ (inlX0 w h))
  have iX2 : ∀ w ∈ wsX20, w ∈ wsX2_takesDocket := fun w h => List.mem_cons_of_mem _ (List.mem_append_right _ (inlX2 w h))
  rw [pX2_takesDocket]
  refine g_aload_n C 0 0 dX2_takesDocket_0 rfl ?_
  refine gfX_X2_docketTold C 1 iX2 (List.mem_cons_of_mem _ (List.mem_append_right _ wgL_4_0.1)) dX2_takesDocket_1 ?_
  refine g_if_eq C 4 13 dX2_takesDocket_4 (by decide) ?_ ?_
  · skip
    refine g_aload_n C 13 0 dX2_takesDocket_13 rfl ?_
    refine g_iconst C 14 1 dX2_takesDocket_14 rfl ?_
    refine pfX_X2_docketTold C 15 iX2 (List.mem_cons_of_mem _ (List.mem_append_right _ wgL_4_0.1)) dX2_takesDocket_15 (fun u1 => ?_)
    refine g_aload_n C 18 0 dX2_takesDocket_18 rfl ?_
    refine g_callVi (st := []) (As := []) C EX_ok EX_vm 19 5 0 (tX2_readsNext F u1) rfl gX2_takesDocket_X2_readsNext rfl rfl rfl (by decide +kernel) ⟨Nat.le_of_ble_eq_true rfl, Nat.le_of_ble_eq_true rfl⟩ rfl rfl rfl (Nat.le_of_ble_eq_true rfl) dX2_takesDocket_19 (fun r3 u2 => ?_)
    refine g_if_ne C 22 27 dX2_takesDocket_22 (by decide) ?_ ?_
    · skip
      refine g_iconst C 27 0 dX2_takesDocket_27 rfl ?_
      refine g_istore_n C 28 [(1, .int 0), (0, .ref (ad 5))] dX2_takesDocket_28 (by decide) rfl ?_
      refine g_jn0 58 ([(0, .ref (ad 5))]) ([]) (fun u4 => ?_) (fun J58 hJ58 => ?_)
      · skip
        rw [jX2_takesDocket_58]
        refine g_aload_n C 58 0 dX2_takesDocket_58 rfl ?_
        refine gfX_X2_told C 59 iX2 (List.mem_cons_of_mem _ (List.mem_append_right _ wgL_3_21.1)) dX2_takesDocket_59 ?_
        refine gfX_X0_hearings 3 (by decide) C 62 iX0 (List.mem_cons_of_mem _ (List.mem_append_right _ wgL_13_0.1)) dX2_takesDocket_62 ?_
        refine g_bipush C 65 6 dX2_takesDocket_65 rfl ?_
        refine g_jn1 90 (fun (a5 : Int32) => [(0, .ref (ad 5))]) (fun (a5 : Int32) => [.int a5]) (fun a5 u6 => ?_) (fun J90 hJ90 => ?_)
        · skip
          refine g_istore_n C 90 [(1, .int a5), (0, .ref (ad 5))] dX2_takesDocket_90 (by decide) rfl ?_
          refine g_iload_n C 91 0 dX2_takesDocket_91 rfl ?_
          refine g_if_eq C 92 103 dX2_takesDocket_92 (by decide) ?_ ?_
          · skip
            refine g_aload_n C 103 1 dX2_takesDocket_103 rfl ?_
            refine g_callVi (st := []) (As := []) C EX_ok EX_vm 104 5 0 (tX2_takesSign F u6) rfl gX2_takesDocket_X2_takesSign rfl rfl rfl (by decide +kernel) ⟨Nat.le_of_ble_eq_true rfl, Nat.le_of_ble_eq_true rfl⟩ rfl rfl rfl (Nat.le_of_ble_eq_true rfl) dX2_takesDocket_104 (fun r8 u7 => ?_)
            exact g_zret C 107 dX2_takesDocket_107
          · skip
            refine g_aload_n C 95 1 dX2_takesDocket_95 rfl ?_
            refine g_iconst C 96 5 dX2_takesDocket_96 rfl ?_
            refine g_callVi (st := []) (As := [.int 5]) C EX_ok EX_vm 97 5 1 (tX2_fails F 5 u6) rfl gX2_takesDocket_X2_fails rfl rfl rfl (by decide +kernel) ⟨Nat.le_of_ble_eq_true rfl, Nat.le_of_ble_eq_true rfl⟩ rfl rfl rfl (Nat.le_of_ble_eq_true rfl) dX2_takesDocket_97 (fun r10 u9 => ?_)
            refine g_goto C 100 107 dX2_takesDocket_100 (by decide) ?_
            exact g_zret C 107 dX2_takesDocket_107
        · skip
          refine g_jn0 89 ([(0, .ref (ad 5))]) ([]) (fun u11 => ?_) (fun J89 hJ89 => ?_)
          · skip
            refine g_iconst C 89 0 dX2_takesDocket_89 rfl ?_
            exact g_sub _ [0] rfl (hJ90 0 u11)
          · skip
            refine g_icmp_lt C 67 89 dX2_takesDocket_67 (by decide) ?_ ?_
            · skip
              exact g_sub _ [0] rfl (hJ89 u4)
            · skip
              refine g_aload_n C 70 0 dX2_takesDocket_70 rfl ?_
              refine gfX_X2_token C 71 iX2 (List.mem_cons_of_mem _ (List.mem_append_right _ wgL_4_1.1)) dX2_takesDocket_71 ?_
              refine g_iconst C 74 3 dX2_takesDocket_74 rfl ?_
              refine g_icmp_eq C 75 89 dX2_takesDocket_75 (by decide) ?_ ?_
              · skip
                exact g_sub _ [0] rfl (hJ89 u4)
              · skip
                refine g_aload_n C 78 0 dX2_takesDocket_78 rfl ?_
                refine gfX_X2_token C 79 iX2 (List.mem_cons_of_mem _ (List.mem_append_right _ wgL_4_1.1)) dX2_takesDocket_79 ?_
                refine g_if_eq C 82 89 dX2_takesDocket_82 (by decide) ?_ ?_
                · skip
                  exact g_sub _ [0] rfl (hJ89 u4)
                · skip
                  refine g_iconst C 85 1 dX2_takesDocket_85 rfl ?_
                  refine g_goto C 86 90 dX2_takesDocket_86 (by decide) ?_
                  exact g_sub _ [0] rfl (hJ90 1 u4)
      · skip
        refine g_sub _ [1, 0] rfl ?_
        refine g_lq1 (fun (x12 : Int32) => [(0, .ref (ad 5)), (1, .int x12)]) (fun self14 hself14 x12 u13 => ?_) F 0 u2
        rw [bX2_takesDocket_29]
        refine g_iload_n C 29 1 dX2_takesDocket_29 rfl ?_
        refine g_bipush C 30 6 dX2_takesDocket_30 rfl ?_
        refine g_icmp_ge C 32 58 dX2_takesDocket_32 (by decide) ?_ ?_
        · skip
          exact g_sub _ [0] rfl (hJ58 u13)
        · skip
          refine g_aload_n C 35 0 dX2_takesDocket_35 rfl ?_
          refine gfX_X2_token C 36 iX2 (List.mem_cons_of_mem _ (List.mem_append_right _ wgL_4_1.1)) dX2_takesDocket_36 ?_
          refine g_iconst C 39 2 dX2_takesDocket_39 rfl ?_
          refine g_icmp_ne C 40 58 dX2_takesDocket_40 (by decide) ?_ ?_
          · skip
            exact g_sub _ [0] rfl (hJ58 u13)
          · skip
            refine g_aload_n C 43 0 dX2_takesDocket_43 rfl ?_
            refine g_callVi (st := []) (As := []) C EX_ok EX_vm 44 5 0 (tX2_takesHearing F u13) rfl gX2_takesDocket_X2_takesHearing rfl rfl rfl (by decide +kernel) ⟨Nat.le_of_ble_eq_true rfl, Nat.le_of_ble_eq_true rfl⟩ rfl rfl rfl (Nat.le_of_ble_eq_true rfl) dX2_takesDocket_44 (fun r16 u15 => ?_)
            refine g_if_ne C 47 52 dX2_takesDocket_47 (by decide) ?_ ?_
            · skip
              refine g_iinc C 52 1 [(1, .int (x12 + 1)), (0, .ref (ad 5))] dX2_takesDocket_52 rfl rfl (by decide) rfl ?_
              refine g_goto C 55 29 dX2_takesDocket_55 (by decide) ?_
              exact g_sub _ [1, 0] rfl (hself14 (x12 + 1) u15)
            · skip
              refine g_iconst C 50 0 dX2_takesDocket_50 rfl ?_
              exact g_nret C 51 rfl dX2_takesDocket_51
    · skip
      refine g_iconst C 25 0 dX2_takesDocket_25 rfl ?_
      exact g_nret C 26 rfl dX2_takesDocket_26
  · skip
    refine g_aload_n C 7 0 dX2_takesDocket_7 rfl ?_
    refine g_iconst C 8 4 dX2_takesDocket_8 rfl ?_
    refine g_callVi (st := []) (As := [.int 4]) C EX_ok EX_vm 9 5 1 (tX2_fails F 4 u) rfl gX2_takesDocket_X2_fails rfl rfl rfl (by decide +kernel) ⟨Nat.le_of_ble_eq_true rfl, Nat.le_of_ble_eq_true rfl⟩ rfl rfl rfl (Nat.le_of_ble_eq_true rfl) dX2_takesDocket_9 (fun r18 u17 => ?_)
    exact g_zret C 12 dX2_takesDocket_12
def pX2_habitNamed (F : Nat)  (u : St) : Option (Int32 × St) :=
  bd (pX2_isNamed F 7 u) (fun (r2 : Int32) (u1 : St) => if r2 = 0 then bd (pX2_isNamed F 8 u1) (fun (r4 : Int32) (u3 : St) => if r4 = 0 then bd (pX2_isNamed F 9 u3) (fun (r6 : Int32) (u5 : St) => if r6 = 0 then bd (pX2_isNamed F 10 u5) (fun (r8 : Int32) (u7 : St) => if r8 = 0 then some ((-4), u7) else some (3, u7)) else some (2, u5)) else some (1, u3)) else some (0, u1))
set_option maxRecDepth 100000 in
set_option maxHeartbeats 4000000 in
theorem tX2_habitNamed {l : Launch} {D : va_G} {cI cZ : ClassId} {ad : Nat → Nat} {tBURNS tFLAME_BOUNDS : Nat} {tS : Option Nat} {adK adV : Nat → Nat} (F : Nat)  (u : St) : CtI l D [(cI, .int), (cZ, .boolean)] (wX ad cI cZ) (EX tBURNS tFLAME_BOUNDS tS adK adV) yX2_habitNamed wsX2_habitNamed ({ frames := 5, cells := 0, slots := 0, locals := 107 } : Room) [.ref (ad 5)] u (pX2_habitNamed F u) := by
  refine ctI_of (own := RX2) (cc := cX2_habitNamed) (n := 1) (ret := (some .int)) (by decide) rfl rfl (Nat.le_of_ble_eq_true rfl) (lv := [(0, .ref (ad 5))]) rfl (fun C => ?_)
  rw [pX2_habitNamed]
  refine g_aload_n C 0 0 dX2_habitNamed_0 rfl ?_
  refine g_ldcS C 1 (EX_s7 C.2.2.2.2.2.2.2.2.1) dX2_habitNamed_1 ?_
  refine g_callVi (st := []) (As := [.ref (adK 7)]) C EX_ok EX_vm 3 5 1 (tX2_isNamed F 7 (by decide) u) rfl gX2_habitNamed_X2_isNamed rfl rfl rfl (by decide +kernel) ⟨Nat.le_of_ble_eq_true rfl, Nat.le_of_ble_eq_true rfl⟩ rfl rfl rfl (Nat.le_of_ble_eq_true rfl) dX2_habitNamed_3 (fun r2 u1 => ?_)
  refine g_if_eq C 6 11 dX2_habitNamed_6 (by decide) ?_ ?_
  · skip
    refine g_aload_n C 11 0 dX2_habitNamed_11 rfl ?_
    refine g_ldcS C 12 (EX_s8 C.2.2.2.2.2.2.2.2.1) dX2_habitNamed_12 ?_
    refine g_callVi (st := []) (As := [.ref (adK 8)]) C EX_ok EX_vm 14 5 1 (tX2_isNamed F 8 (by decide) u1) rfl gX2_habitNamed_X2_isNamed rfl rfl rfl (by decide +kernel) ⟨Nat.le_of_ble_eq_true rfl, Nat.le_of_ble_eq_true rfl⟩ rfl rfl rfl (Nat.le_of_ble_eq_true rfl) dX2_habitNamed_14 (fun r4 u3 => ?_)
    refine g_if_eq C 17 22 dX2_habitNamed_17 (by decide) ?_ ?_
    · skip
      refine g_aload_n C 22 0 dX2_habitNamed_22 rfl ?_
      refine g_ldcS C 23 (EX_s9 C.2.2.2.2.2.2.2.2.1) dX2_habitNamed_23 ?_
      refine g_callVi (st := []) (As := [.ref (adK 9)]) C EX_ok EX_vm 25 5 1 (tX2_isNamed F 9 (by decide) u3) rfl gX2_habitNamed_X2_isNamed rfl rfl rfl (by decide +kernel) ⟨Nat.le_of_ble_eq_true rfl, Nat.le_of_ble_eq_true rfl⟩ rfl rfl rfl (Nat.le_of_ble_eq_true rfl) dX2_habitNamed_25 (fun r6 u5 => ?_)
      refine g_if_eq C 28 33 dX2_habitNamed_28 (by decide) ?_ ?_
      · skip
        refine g_aload_n C 33 0 dX2_habitNamed_33 rfl ?_
        refine g_ldcS C 34 (EX_s10 C.2.2.2.2.2.2.2.2.1) dX2_habitNamed_34 ?_
        refine g_callVi (st := []) (As := [.ref (adK 10)]) C EX_ok EX_vm 36 5 1 (tX2_isNamed F 10 (by decide) u5) rfl gX2_habitNamed_X2_isNamed rfl rfl rfl (by decide +kernel) ⟨Nat.le_of_ble_eq_true rfl, Nat.le_of_ble_eq_true rfl⟩ rfl rfl rfl (Nat.le_of_ble_eq_true rfl) dX2_habitNamed_36 (fun r8 u7 => ?_)
        refine g_if_eq C 39 46 dX2_habitNamed_39 (by decide) ?_ ?_
        · skip
          refine g_bipush C 46 (-4) dX2_habitNamed_46 rfl ?_
          exact g_iret C 48 dX2_habitNamed_48
        · skip
          refine g_iconst C 42 3 dX2_habitNamed_42 rfl ?_
          refine g_goto C 43 48 dX2_habitNamed_43 (by decide) ?_
          exact g_iret C 48 dX2_habitNamed_48
      · skip
        refine g_iconst C 31 2 dX2_habitNamed_31 rfl ?_
        exact g_iret C 32 dX2_habitNamed_32
    · skip
      refine g_iconst C 20 1 dX2_habitNamed_20 rfl ?_
      exact g_iret C 21 dX2_habitNamed_21
  · skip
    refine g_iconst C 9 0 dX2_habitNamed_9 rfl ?_
    exact g_iret C 10 dX2_habitNamed_10
def pX0_addJudge (F : Nat) (j : Nat) (p1 : Int32) (p2 : Int32) (u : St) : Option (Int32 × St) :=
  if (u.1 (4 * j + 1)) < 3 then gd (inb (u.1 (4 * j + 1)) 3) (vl (sta u (13 * j + 7) (u.1 (4 * j + 1)) p1) (fun (u1 : St) => gd (inb (u1.1 (4 * j + 1)) 3) (vl (sta u1 (13 * j + 8) (u1.1 (4 * j + 1)) p2) (fun (u2 : St) => vl (stf u2 (4 * j + 1) ((u2.1 (4 * j + 1)) + 1)) (fun (u3 : St) => some (1, u3)))))) else some (0, u)
set_option maxRecDepth 100000 in
set_option maxHeartbeats 4000000 in
theorem tX0_addJudge {l : Launch} {D : va_G} {cI cZ : ClassId} {ad : Nat → Nat} {tBURNS tFLAME_BOUNDS : Nat} {tS : Option Nat} {adK adV : Nat → Nat} (F : Nat) (j : Nat) (hj : j < 4) (p1 : Int32) (p2 : Int32) (u : St) : CtI l D [(cI, .int), (cZ, .boolean)] (wX ad cI cZ) (EX tBURNS tFLAME_BOUNDS tS adK adV) yX0_addJudge wsX0_addJudge ({ frames := 0, cells := 0, slots := 0, locals := 0 } : Room) [.ref (ad (1 + j)), .int p1, .int p2] u (pX0_addJudge F j p1 p2 u) := by
  refine ctI_of (own := RX0) (cc := cX0_addJudge) (n := 3) (ret := (some .boolean)) (by decide) rfl rfl (Nat.le_of_ble_eq_true rfl) (lv := [(0, .ref (ad (1 + j))), (1, .int p1), (2, .int p2)]) rfl (fun C => ?_)
  have iX0 : ∀ w ∈ wsX00, w ∈ wsX0_addJudge := fun w h => List.mem_cons_of_mem _ (List.mem_append_right _ (inlX0 w h))
  rw [pX0_addJudge]
  refine g_aload_n C 0 0 dX0_addJudge_0 rfl ?_
  refine gfX_X0_judges j hj C 1 iX0 (List.mem_cons_of_mem _ (List.mem_append_right _ wgL_3_0.1)) dX0_addJudge_1 ?_
  refine g_iconst C 4 3 dX0_addJudge_4 rfl ?_
  refine g_icmp_lt C 5 10 dX0_addJudge_5 (by decide) ?_ ?_
  · skip
    refine g_aload_n C 10 0 dX0_addJudge_10 rfl ?_
    refine gfX_X0_habit j hj C 11 iX0 (List.mem_cons_of_mem _ (List.mem_append_right _ wgL_3_10.1)) dX0_addJudge_11 ?_
    refine g_aload_n C 14 0 dX0_addJudge_14 rfl ?_
    refine gfX_X0_judges j hj C 15 iX0 (List.mem_cons_of_mem _ (List.mem_append_right _ wgL_3_0.1)) dX0_addJudge_15 ?_
    refine g_iload_n C 18 1 dX0_addJudge_18 rfl ?_
    refine g_iast C 19 (10 + (13 * j + 7)) 0 (13 * j + 7) (wX_X0_habit j hj) (wX_X0_habit_set j hj) rfl dX0_addJudge_19 (fun u1 => ?_)
    refine g_aload_n C 20 0 dX0_addJudge_20 rfl ?_
    refine gfX_X0_slow j hj C 21 iX0 (List.mem_cons_of_mem _ (List.mem_append_right _ wgL_3_11.1)) dX0_addJudge_21 ?_
    refine g_aload_n C 24 0 dX0_addJudge_24 rfl ?_
    refine gfX_X0_judges j hj C 25 iX0 (List.mem_cons_of_mem _ (List.mem_append_right _ wgL_3_0.1)) dX0_addJudge_25 ?_
    refine g_iload_n C 28 2 dX0_addJudge_28 rfl ?_
    refine g_iast C 29 (10 + (13 * j + 8)) 0 (13 * j + 8) (wX_X0_slow j hj) (wX_X0_slow_set j hj) rfl dX0_addJudge_29 (fun u2 => ?_)
    refine g_aload_n C 30 0 dX0_addJudge_30 rfl ?_
    refine g_dup C 31 dX0_addJudge_31 rfl ?_
    refine gfX_X0_judges j hj C 32 iX0 (List.mem_cons_of_mem _ (List.mem_append_right _ wgL_3_0.1)) dX0_addJudge_32 ?_
    refine g_iconst C 35 1 dX0_addJudge_35 rfl ?_
    refine g_iadd C 36 dX0_addJudge_36 ?_
    refine pfX_X0_judges j hj C 37 iX0 (List.mem_cons_of_mem _ (List.mem_append_right _ wgL_3_0.1)) dX0_addJudge_37 (fun u3 => ?_)
    refine g_iconst C 40 1 dX0_addJudge_40 rfl ?_
    exact g_nret C 41 rfl dX0_addJudge_41
  · skip
    refine g_iconst C 8 0 dX0_addJudge_8 rfl ?_
    exact g_nret C 9 rfl dX0_addJudge_9
def pX2_takesJudge (F : Nat) (p1 : Int32) (u : St) : Option (Int32 × St) :=
  if (u.1 13) < 3 then bd (pX2_readsNumber F 1 9 u) (fun (r2 : Int32) (u1 : St) => if r2 = 0 then some (0, u1) else bd (pX0_addJudge F 3 p1 (u1.1 23) u1) (fun (r4 : Int32) (u3 : St) => bd (pX2_readsNext F u3) (fun (r6 : Int32) (u5 : St) => if r6 = 0 then some (0, u5) else bd (pX2_takesSign F u5) (fun (r8 : Int32) (u7 : St) => if r8 = 0 then some (0, u7) else some (1, u7))))) else bd (pX2_fails F 5 u) (fun (r10 : Int32) (u9 : St) => gd (z01 r10) (some (r10, u9)))
set_option maxRecDepth 100000 in
set_option maxHeartbeats 4000000 in
theorem tX2_takesJudge {l : Launch} {D : va_G} {cI cZ : ClassId} {ad : Nat → Nat} {tBURNS tFLAME_BOUNDS : Nat} {tS : Option Nat} {adK adV : Nat → Nat} (F : Nat) (p1 : Int32) (u : St) : CtI l D [(cI, .int), (cZ, .boolean)] (wX ad cI cZ) (EX tBURNS tFLAME_BOUNDS tS adK adV) yX2_takesJudge wsX2_takesJudge ({ frames := 3, cells := 0, slots := 0, locals := 67 } : Room) [.ref (ad 5), .int p1] u (pX2_takesJudge F p1 u) := by
  refine ctI_of (own := RX2) (cc := cX2_takesJudge) (n := 2) (ret := (some .boolean)) (by decide) rfl rfl (Nat.le_of_ble_eq_true rfl) (lv := [(0, .ref (ad 5)), (1, .int p1)]) rfl (fun C => ?_)
  have iX0 : ∀ w ∈ wsX00, w ∈ wsX2_takesJudge := fun w h => List.mem_cons_of_mem _ (List.mem_append_right _ (inlX0 w h))
  have iX2 : ∀ w ∈ wsX20, w ∈ wsX2_takesJudge := fun w h => List.mem_cons_of_mem _ (List.mem_append_right _ (inlX2 w h))
  rw [pX2_takesJudge]
  refine g_aload_n C 0 0 dX2_takesJudge_0 rfl ?_
  refine gfX_X2_told C 1 iX2 (List.mem_cons_of_mem _ (List.mem_append_right _ wgL_3_21.1)) dX2_takesJudge_1 ?_
  refine gfX_X0_judges 3 (by decide) C 4 iX0 (List.mem_cons_of_mem _ (List.mem_append_right _ wgL_13_17.1)) dX2_takesJudge_4 ?_
  refine g_iconst C 7 3 dX2_takesJudge_7 rfl ?_
  refine g_icmp_lt C 8 17 dX2_takesJudge_8 (by decide) ?_ ?_
  · skip
    refine g_aload_n C 17 0 dX2_takesJudge_17 rfl ?_
    refine g_iconst C 18 1 dX2_takesJudge_18 rfl ?_
    refine g_bipush C 19 9 dX2_takesJudge_19 rfl ?_
    refine g_callVi (st := []) (As := [.int 1, .int 9]) C EX_ok EX_vm 21 5 2 (tX2_readsNumber F 1 9 u) rfl gX2_takesJudge_X2_readsNumber rfl rfl rfl (by decide +kernel) ⟨Nat.le_of_ble_eq_true rfl, Nat.le_of_ble_eq_true rfl⟩ rfl rfl rfl (Nat.le_of_ble_eq_true rfl) dX2_takesJudge_21 (fun r2 u1 => ?_)
    refine g_if_ne C 24 29 dX2_takesJudge_24 (by decide) ?_ ?_
    · skip
      refine g_aload_n C 29 0 dX2_takesJudge_29 rfl ?_
      refine gfX_X2_told C 30 iX2 (List.mem_cons_of_mem _ (List.mem_append_right _ wgL_3_21.1)) dX2_takesJudge_30 ?_
      refine g_iload_n C 33 1 dX2_takesJudge_33 rfl ?_
      refine g_aload_n C 34 0 dX2_takesJudge_34 rfl ?_
      refine gfX_X2_number C 35 iX2 (List.mem_cons_of_mem _ (List.mem_append_right _ wgL_4_4.1)) dX2_takesJudge_35 ?_
      refine g_callVi (st := []) (As := [.int p1, .int (u1.1 23)]) C EX_ok EX_vm 38 4 2 (tX0_addJudge F 3 (by decide) p1 (u1.1 23) u1) rfl gX2_takesJudge_X0_addJudge rfl rfl rfl (by decide +kernel) ⟨Nat.le_of_ble_eq_true rfl, Nat.le_of_ble_eq_true rfl⟩ (wX_X0 ad cI cZ _ 3 (by decide)) rfl rfl (Nat.le_of_ble_eq_true rfl) dX2_takesJudge_38 (fun r4 u3 => ?_)
      refine g_pop C 41 dX2_takesJudge_41 rfl ?_
      refine g_aload_n C 42 0 dX2_takesJudge_42 rfl ?_
      refine g_callVi (st := []) (As := []) C EX_ok EX_vm 43 5 0 (tX2_readsNext F u3) rfl gX2_takesJudge_X2_readsNext rfl rfl rfl (by decide +kernel) ⟨Nat.le_of_ble_eq_true rfl, Nat.le_of_ble_eq_true rfl⟩ rfl rfl rfl (Nat.le_of_ble_eq_true rfl) dX2_takesJudge_43 (fun r6 u5 => ?_)
      refine g_if_eq C 46 60 dX2_takesJudge_46 (by decide) ?_ ?_
      · skip
        refine g_iconst C 60 0 dX2_takesJudge_60 rfl ?_
        exact g_nret C 61 rfl dX2_takesJudge_61
      · skip
        refine g_aload_n C 49 0 dX2_takesJudge_49 rfl ?_
        refine g_callVi (st := []) (As := []) C EX_ok EX_vm 50 5 0 (tX2_takesSign F u5) rfl gX2_takesJudge_X2_takesSign rfl rfl rfl (by decide +kernel) ⟨Nat.le_of_ble_eq_true rfl, Nat.le_of_ble_eq_true rfl⟩ rfl rfl rfl (Nat.le_of_ble_eq_true rfl) dX2_takesJudge_50 (fun r8 u7 => ?_)
        refine g_if_eq C 53 60 dX2_takesJudge_53 (by decide) ?_ ?_
        · skip
          refine g_iconst C 60 0 dX2_takesJudge_60 rfl ?_
          exact g_nret C 61 rfl dX2_takesJudge_61
        · skip
          refine g_iconst C 56 1 dX2_takesJudge_56 rfl ?_
          refine g_goto C 57 61 dX2_takesJudge_57 (by decide) ?_
          exact g_nret C 61 rfl dX2_takesJudge_61
    · skip
      refine g_iconst C 27 0 dX2_takesJudge_27 rfl ?_
      exact g_nret C 28 rfl dX2_takesJudge_28
  · skip
    refine g_aload_n C 11 0 dX2_takesJudge_11 rfl ?_
    refine g_iconst C 12 5 dX2_takesJudge_12 rfl ?_
    refine g_callVi (st := []) (As := [.int 5]) C EX_ok EX_vm 13 5 1 (tX2_fails F 5 u) rfl gX2_takesJudge_X2_fails rfl rfl rfl (by decide +kernel) ⟨Nat.le_of_ble_eq_true rfl, Nat.le_of_ble_eq_true rfl⟩ rfl rfl rfl (Nat.le_of_ble_eq_true rfl) dX2_takesJudge_13 (fun r10 u9 => ?_)
    exact g_zret C 16 dX2_takesJudge_16
def pX2_takesLine (F : Nat)  (u : St) : Option (Int32 × St) :=
  bd (pX2_isNamed F 0 u) (fun (r2 : Int32) (u1 : St) => if r2 = 0 then bd (pX2_isNamed F 5 u1) (fun (r4 : Int32) (u3 : St) => if r4 = 0 then bd (pX2_isNamed F 6 u3) (fun (r6 : Int32) (u5 : St) => if r6 = 0 then bd (pX2_habitNamed F u5) (fun (r8 : Int32) (u7 : St) => if r8 = (-4) then bd (pX2_fails F 2 u7) (fun (r12 : Int32) (u11 : St) => gd (z01 r12) (some (r12, u11))) else bd (pX2_takesJudge F r8 u7) (fun (r10 : Int32) (u9 : St) => gd (z01 r10) (some (r10, u9)))) else bd (pX2_takesDocket F u5) (fun (r14 : Int32) (u13 : St) => gd (z01 r14) (some (r14, u13)))) else bd (pX2_takesDraught F u3) (fun (r16 : Int32) (u15 : St) => gd (z01 r16) (some (r16, u15)))) else bd (pX2_takesCase F u1) (fun (r18 : Int32) (u17 : St) => gd (z01 r18) (some (r18, u17))))
set_option maxRecDepth 100000 in
set_option maxHeartbeats 4000000 in
theorem tX2_takesLine {l : Launch} {D : va_G} {cI cZ : ClassId} {ad : Nat → Nat} {tBURNS tFLAME_BOUNDS : Nat} {tS : Option Nat} {adK adV : Nat → Nat} (F : Nat)  (u : St) : CtI l D [(cI, .int), (cZ, .boolean)] (wX ad cI cZ) (EX tBURNS tFLAME_BOUNDS tS adK adV) yX2_takesLine wsX2_takesLine ({ frames := 8, cells := 0, slots := 0, locals := 169 } : Room) [.ref (ad 5)] u (pX2_takesLine F u) := by
  refine ctI_of (own := RX2) (cc := cX2_takesLine) (n := 2) (ret := (some .boolean)) (by decide) rfl rfl (Nat.le_of_ble_eq_true rfl) (lv := [(0, .ref (ad 5))]) rfl (fun C => ?_)
  rw [pX2_takesLine]
  refine g_aload_n C 0 0 dX2_takesLine_0 rfl ?_
  refine g_ldcS C 1 (EX_s0 C.2.2.2.2.2.2.2.2.1) dX2_takesLine_1 ?_
  refine g_callVi (st := []) (As := [.ref (adK 0)]) C EX_ok EX_vm 3 5 1 (tX2_isNamed F 0 (by decide) u) rfl gX2_takesLine_X2_isNamed rfl rfl rfl (by decide +kernel) ⟨Nat.le_of_ble_eq_true rfl, Nat.le_of_ble_eq_true rfl⟩ rfl rfl rfl (Nat.le_of_ble_eq_true rfl) dX2_takesLine_3 (fun r2 u1 => ?_)
  refine g_if_eq C 6 14 dX2_takesLine_6 (by decide) ?_ ?_
  · skip
    refine g_aload_n C 14 0 dX2_takesLine_14 rfl ?_
    refine g_ldcS C 15 (EX_s5 C.2.2.2.2.2.2.2.2.1) dX2_takesLine_15 ?_
    refine g_callVi (st := []) (As := [.ref (adK 5)]) C EX_ok EX_vm 17 5 1 (tX2_isNamed F 5 (by decide) u1) rfl gX2_takesLine_X2_isNamed rfl rfl rfl (by decide +kernel) ⟨Nat.le_of_ble_eq_true rfl, Nat.le_of_ble_eq_true rfl⟩ rfl rfl rfl (Nat.le_of_ble_eq_true rfl) dX2_takesLine_17 (fun r4 u3 => ?_)
    refine g_if_eq C 20 28 dX2_takesLine_20 (by decide) ?_ ?_
    · skip
      refine g_aload_n C 28 0 dX2_takesLine_28 rfl ?_
      refine g_ldcS C 29 (EX_s6 C.2.2.2.2.2.2.2.2.1) dX2_takesLine_29 ?_
      refine g_callVi (st := []) (As := [.ref (adK 6)]) C EX_ok EX_vm 31 5 1 (tX2_isNamed F 6 (by decide) u3) rfl gX2_takesLine_X2_isNamed rfl rfl rfl (by decide +kernel) ⟨Nat.le_of_ble_eq_true rfl, Nat.le_of_ble_eq_true rfl⟩ rfl rfl rfl (Nat.le_of_ble_eq_true rfl) dX2_takesLine_31 (fun r6 u5 => ?_)
      refine g_if_eq C 34 42 dX2_takesLine_34 (by decide) ?_ ?_
      · skip
        refine g_aload_n C 42 0 dX2_takesLine_42 rfl ?_
        refine g_callVi (st := []) (As := []) C EX_ok EX_vm 43 5 0 (tX2_habitNamed F u5) rfl gX2_takesLine_X2_habitNamed rfl rfl rfl (by decide +kernel) ⟨Nat.le_of_ble_eq_true rfl, Nat.le_of_ble_eq_true rfl⟩ rfl rfl rfl (Nat.le_of_ble_eq_true rfl) dX2_takesLine_43 (fun r8 u7 => ?_)
        refine g_istore_n C 46 [(1, .int r8), (0, .ref (ad 5))] dX2_takesLine_46 (by decide) rfl ?_
        refine g_iload_n C 47 0 dX2_takesLine_47 rfl ?_
        refine g_bipush C 48 (-4) dX2_takesLine_48 rfl ?_
        refine g_icmp_ne C 50 61 dX2_takesLine_50 (by decide) ?_ ?_
        · skip
          refine g_aload_n C 61 1 dX2_takesLine_61 rfl ?_
          refine g_iload_n C 62 0 dX2_takesLine_62 rfl ?_
          refine g_callVi (st := []) (As := [.int r8]) C EX_ok EX_vm 63 5 1 (tX2_takesJudge F r8 u7) rfl gX2_takesLine_X2_takesJudge rfl rfl rfl (by decide +kernel) ⟨Nat.le_of_ble_eq_true rfl, Nat.le_of_ble_eq_true rfl⟩ rfl rfl rfl (Nat.le_of_ble_eq_true rfl) dX2_takesLine_63 (fun r10 u9 => ?_)
          exact g_zret C 66 dX2_takesLine_66
        · skip
          refine g_aload_n C 53 1 dX2_takesLine_53 rfl ?_
          refine g_iconst C 54 2 dX2_takesLine_54 rfl ?_
          refine g_callVi (st := []) (As := [.int 2]) C EX_ok EX_vm 55 5 1 (tX2_fails F 2 u7) rfl gX2_takesLine_X2_fails rfl rfl rfl (by decide +kernel) ⟨Nat.le_of_ble_eq_true rfl, Nat.le_of_ble_eq_true rfl⟩ rfl rfl rfl (Nat.le_of_ble_eq_true rfl) dX2_takesLine_55 (fun r12 u11 => ?_)
          refine g_goto C 58 66 dX2_takesLine_58 (by decide) ?_
          exact g_zret C 66 dX2_takesLine_66
      · skip
        refine g_aload_n C 37 0 dX2_takesLine_37 rfl ?_
        refine g_callVi (st := []) (As := []) C EX_ok EX_vm 38 5 0 (tX2_takesDocket F u5) rfl gX2_takesLine_X2_takesDocket rfl rfl rfl (by decide +kernel) ⟨Nat.le_of_ble_eq_true rfl, Nat.le_of_ble_eq_true rfl⟩ rfl rfl rfl (Nat.le_of_ble_eq_true rfl) dX2_takesLine_38 (fun r14 u13 => ?_)
        exact g_zret C 41 dX2_takesLine_41
    · skip
      refine g_aload_n C 23 0 dX2_takesLine_23 rfl ?_
      refine g_callVi (st := []) (As := []) C EX_ok EX_vm 24 5 0 (tX2_takesDraught F u3) rfl gX2_takesLine_X2_takesDraught rfl rfl rfl (by decide +kernel) ⟨Nat.le_of_ble_eq_true rfl, Nat.le_of_ble_eq_true rfl⟩ rfl rfl rfl (Nat.le_of_ble_eq_true rfl) dX2_takesLine_24 (fun r16 u15 => ?_)
      exact g_zret C 27 dX2_takesLine_27
  · skip
    refine g_aload_n C 9 0 dX2_takesLine_9 rfl ?_
    refine g_callVi (st := []) (As := []) C EX_ok EX_vm 10 5 0 (tX2_takesCase F u1) rfl gX2_takesLine_X2_takesCase rfl rfl rfl (by decide +kernel) ⟨Nat.le_of_ble_eq_true rfl, Nat.le_of_ble_eq_true rfl⟩ rfl rfl rfl (Nat.le_of_ble_eq_true rfl) dX2_takesLine_10 (fun r18 u17 => ?_)
    exact g_zret C 13 dX2_takesLine_13
def pX0_hasCase (F : Nat) (j : Nat) (p1 : Int64) (u : St) : Option (Int32 × St) :=
  bd (pX6_isIn F p1 0 ((u.1 (4 * j + 0)) - 1) u) (fun (r2 : Int32) (u1 : St) => gd (z01 r2) (some (r2, u1)))
set_option maxRecDepth 100000 in
set_option maxHeartbeats 4000000 in
theorem tX0_hasCase {l : Launch} {D : va_G} {cI cZ : ClassId} {ad : Nat → Nat} {tBURNS tFLAME_BOUNDS : Nat} {tS : Option Nat} {adK adV : Nat → Nat} (F : Nat) (j : Nat) (hj : j < 4) (p1 : Int64) (u : St) : CtI l D [(cI, .int), (cZ, .boolean)] (wX ad cI cZ) (EX tBURNS tFLAME_BOUNDS tS adK adV) yX0_hasCase wsX0_hasCase ({ frames := 1, cells := 0, slots := 0, locals := 23 } : Room) [.ref (ad (1 + j)), .long p1] u (pX0_hasCase F j p1 u) := by
  refine ctI_of (own := RX0) (cc := cX0_hasCase) (n := 3) (ret := (some .boolean)) (by decide) rfl rfl (Nat.le_of_ble_eq_true rfl) (lv := [(0, .ref (ad (1 + j))), (1, .long p1)]) rfl (fun C => ?_)
  have iX0 : ∀ w ∈ wsX00, w ∈ wsX0_hasCase := fun w h => List.mem_cons_of_mem _ (List.mem_append_right _ (inlX0 w h))
  rw [pX0_hasCase]
  refine g_lload_n C 0 1 dX0_hasCase_0 rfl ?_
  refine g_iconst C 1 0 dX0_hasCase_1 rfl ?_
  refine g_aload_n C 2 0 dX0_hasCase_2 rfl ?_
  refine gfX_X0_cases j hj C 3 iX0 (List.mem_cons_of_mem _ (List.mem_append_right _ wgL_2_23.1)) dX0_hasCase_3 ?_
  refine g_iconst C 6 1 dX0_hasCase_6 rfl ?_
  refine g_isub C 7 dX0_hasCase_7 ?_
  refine g_callNi (st := []) (As := [.long p1, .int 0, .int ((u.1 (4 * j + 0)) - 1)]) C EX_ok EX_vm 8 3 (tX6_isIn F p1 0 ((u.1 (4 * j + 0)) - 1) u) rfl ggX0_hasCase_X6_isIn rfl rfl rfl (EX_n1 C.2.2.2.2.2.2.2.2.1) (by decide +kernel) (by decide +kernel) (by decide +kernel) ⟨Nat.le_of_ble_eq_true rfl, Nat.le_of_ble_eq_true rfl⟩ rfl (Nat.le_of_ble_eq_true rfl) dX0_hasCase_8 (fun r2 u1 => ?_)
  exact g_zret C 11 dX0_hasCase_11
def pX0_hasJudge (F : Nat) (j : Nat) (p1 : Int32) (u : St) : Option (Int32 × St) :=
  bd (pX6_isIn F (Int32.toInt64 p1) 0 ((u.1 (4 * j + 1)) - 1) u) (fun (r2 : Int32) (u1 : St) => gd (z01 r2) (some (r2, u1)))
set_option maxRecDepth 100000 in
set_option maxHeartbeats 4000000 in
theorem tX0_hasJudge {l : Launch} {D : va_G} {cI cZ : ClassId} {ad : Nat → Nat} {tBURNS tFLAME_BOUNDS : Nat} {tS : Option Nat} {adK adV : Nat → Nat} (F : Nat) (j : Nat) (hj : j < 4) (p1 : Int32) (u : St) : CtI l D [(cI, .int), (cZ, .boolean)] (wX ad cI cZ) (EX tBURNS tFLAME_BOUNDS tS adK adV) yX0_hasJudge wsX0_hasJudge ({ frames := 1, cells := 0, slots := 0, locals := 23 } : Room) [.ref (ad (1 + j)), .int p1] u (pX0_hasJudge F j p1 u) := by
  refine ctI_of (own := RX0) (cc := cX0_hasJudge) (n := 2) (ret := (some .boolean)) (by decide) rfl rfl (Nat.le_of_ble_eq_true rfl) (lv := [(0, .ref (ad (1 + j))), (1, .int p1)]) rfl (fun C => ?_)
  have iX0 : ∀ w ∈ wsX00, w ∈ wsX0_hasJudge := fun w h => List.mem_cons_of_mem _ (List.mem_append_right _ (inlX0 w h))
  rw [pX0_hasJudge]
  refine g_iload_n C 0 1 dX0_hasJudge_0 rfl ?_
  refine g_i2l C 1 dX0_hasJudge_1 ?_
  refine g_iconst C 2 0 dX0_hasJudge_2 rfl ?_
  refine g_aload_n C 3 0 dX0_hasJudge_3 rfl ?_
  refine gfX_X0_judges j hj C 4 iX0 (List.mem_cons_of_mem _ (List.mem_append_right _ wgL_3_0.1)) dX0_hasJudge_4 ?_
  refine g_iconst C 7 1 dX0_hasJudge_7 rfl ?_
  refine g_isub C 8 dX0_hasJudge_8 ?_
  refine g_callNi (st := []) (As := [.long (Int32.toInt64 p1), .int 0, .int ((u.1 (4 * j + 1)) - 1)]) C EX_ok EX_vm 9 3 (tX6_isIn F (Int32.toInt64 p1) 0 ((u.1 (4 * j + 1)) - 1) u) rfl ggX0_hasJudge_X6_isIn rfl rfl rfl (EX_n1 C.2.2.2.2.2.2.2.2.1) (by decide +kernel) (by decide +kernel) (by decide +kernel) ⟨Nat.le_of_ble_eq_true rfl, Nat.le_of_ble_eq_true rfl⟩ rfl (Nat.le_of_ble_eq_true rfl) dX0_hasJudge_9 (fun r2 u1 => ?_)
  exact g_zret C 12 dX0_hasJudge_12
def jX2_docketStands_52 (F : Nat)   (u1 : St) : Option (Int32 × St) :=
  bd (pX2_fails F 6 u1) (fun (r3 : Int32) (u2 : St) => gd (z01 r3) (some (r3, u2)))
def bX2_docketStands_2 (F : Nat) (J52 : St → Option (Int32 × St)) (self6 : Int32 → St → Option (Int32 × St)) (x4 : Int32) (u5 : St) : Option (Int32 × St) :=
  if (u5.1 15) ≤ x4 then some (1, u5) else gd (inb x4 6) (bd (pX0_hasCase F 3 (Int32.toInt64 (u5.2 50 (Int32.toNatClampNeg x4))) u5) (fun (r8 : Int32) (u7 : St) => if r8 = 0 then (J52 u7) else gd (inb x4 6) (bd (pX0_hasJudge F 3 (u7.2 51 (Int32.toNatClampNeg x4)) u7) (fun (r10 : Int32) (u9 : St) => if r10 = 0 then (J52 u9) else (self6 (x4 + 1) u9)))))
def pX2_docketStands (F : Nat)  (u : St) : Option (Int32 × St) :=
  jn (jX2_docketStands_52 F) (fun (J52 : St → Option (Int32 × St)) => (lq1 (bX2_docketStands_2 F J52) F 0 u))
set_option maxRecDepth 100000 in
set_option maxHeartbeats 4000000 in
theorem tX2_docketStands {l : Launch} {D : va_G} {cI cZ : ClassId} {ad : Nat → Nat} {tBURNS tFLAME_BOUNDS : Nat} {tS : Option Nat} {adK adV : Nat → Nat} (F : Nat)  (u : St) : CtI l D [(cI, .int), (cZ, .boolean)] (wX ad cI cZ) (EX tBURNS tFLAME_BOUNDS tS adK adV) yX2_docketStands wsX2_docketStands ({ frames := 2, cells := 0, slots := 0, locals := 45 } : Room) [.ref (ad 5)] u (pX2_docketStands F u) := by
  refine ctI_of (own := RX2) (cc := cX2_docketStands) (n := 2) (ret := (some .boolean)) (by decide) rfl rfl (Nat.le_of_ble_eq_true rfl) (lv := [(0, .ref (ad 5))]) rfl (fun C => ?_)
  have iX0 : ∀ w ∈ wsX00, w ∈ wsX2_docketStands := fun w h => List.mem_cons_of_mem _ (List.mem_append_right _ (inlX0 w h))
  have iX2 : ∀ w ∈ wsX20, w ∈ wsX2_docketStands := fun w h => List.mem_cons_of_mem _ (List.mem_append_right _ (inlX2 w h))
  rw [pX2_docketStands]
  refine g_iconst C 0 0 dX2_docketStands_0 rfl ?_
  refine g_istore_n C 1 [(1, .int 0), (0, .ref (ad 5))] dX2_docketStands_1 (by decide) rfl ?_
  refine g_jn0 52 ([(0, .ref (ad 5))]) ([]) (fun u1 => ?_) (fun J52 hJ52 => ?_)
  · skip
    rw [jX2_docketStands_52]
    refine g_aload_n C 52 0 dX2_docketStands_52 rfl ?_
    refine g_bipush C 53 6 dX2_docketStands_53 rfl ?_
    refine g_callVi (st := []) (As := [.int 6]) C EX_ok EX_vm 55 5 1 (tX2_fails F 6 u1) rfl gX2_docketStands_X2_fails rfl rfl rfl (by decide +kernel) ⟨Nat.le_of_ble_eq_true rfl, Nat.le_of_ble_eq_true rfl⟩ rfl rfl rfl (Nat.le_of_ble_eq_true rfl) dX2_docketStands_55 (fun r3 u2 => ?_)
    exact g_zret C 58 dX2_docketStands_58
  · skip
    refine g_sub _ [1, 0] rfl ?_
    refine g_lq1 (fun (x4 : Int32) => [(0, .ref (ad 5)), (1, .int x4)]) (fun self6 hself6 x4 u5 => ?_) F 0 u
    rw [bX2_docketStands_2]
    refine g_iload_n C 2 1 dX2_docketStands_2 rfl ?_
    refine g_aload_n C 3 0 dX2_docketStands_3 rfl ?_
    refine gfX_X2_told C 4 iX2 (List.mem_cons_of_mem _ (List.mem_append_right _ wgL_3_21.1)) dX2_docketStands_4 ?_
    refine gfX_X0_hearings 3 (by decide) C 7 iX0 (List.mem_cons_of_mem _ (List.mem_append_right _ wgL_13_0.1)) dX2_docketStands_7 ?_
    refine g_icmp_ge C 10 65 dX2_docketStands_10 (by decide) ?_ ?_
    · skip
      refine g_iconst C 65 1 dX2_docketStands_65 rfl ?_
      exact g_nret C 66 rfl dX2_docketStands_66
    · skip
      refine g_aload_n C 13 0 dX2_docketStands_13 rfl ?_
      refine gfX_X2_told C 14 iX2 (List.mem_cons_of_mem _ (List.mem_append_right _ wgL_3_21.1)) dX2_docketStands_14 ?_
      refine g_aload_n C 17 0 dX2_docketStands_17 rfl ?_
      refine gfX_X2_told C 18 iX2 (List.mem_cons_of_mem _ (List.mem_append_right _ wgL_3_21.1)) dX2_docketStands_18 ?_
      refine gfX_X0_docketCase 3 (by decide) C 21 iX0 (List.mem_cons_of_mem _ (List.mem_append_right _ wgL_14_2.1)) dX2_docketStands_21 ?_
      refine g_iload_n C 24 1 dX2_docketStands_24 rfl ?_
      refine g_iald C 25 (10 + 50) 0 (wX_arr 50 (by decide)) rfl dX2_docketStands_25 ?_
      refine g_i2l C 26 dX2_docketStands_26 ?_
      refine g_callVi (st := []) (As := [.long (Int32.toInt64 (u5.2 50 (Int32.toNatClampNeg x4)))]) C EX_ok EX_vm 27 4 1 (tX0_hasCase F 3 (by decide) (Int32.toInt64 (u5.2 50 (Int32.toNatClampNeg x4))) u5) rfl gX2_docketStands_X0_hasCase rfl rfl rfl (by decide +kernel) ⟨Nat.le_of_ble_eq_true rfl, Nat.le_of_ble_eq_true rfl⟩ (wX_X0 ad cI cZ _ 3 (by decide)) rfl rfl (Nat.le_of_ble_eq_true rfl) dX2_docketStands_27 (fun r8 u7 => ?_)
      refine g_if_eq C 30 52 dX2_docketStands_30 (by decide) ?_ ?_
      · skip
        exact g_sub _ [0] rfl (hJ52 u7)
      · skip
        refine g_aload_n C 33 0 dX2_docketStands_33 rfl ?_
        refine gfX_X2_told C 34 iX2 (List.mem_cons_of_mem _ (List.mem_append_right _ wgL_3_21.1)) dX2_docketStands_34 ?_
        refine g_aload_n C 37 0 dX2_docketStands_37 rfl ?_
        refine gfX_X2_told C 38 iX2 (List.mem_cons_of_mem _ (List.mem_append_right _ wgL_3_21.1)) dX2_docketStands_38 ?_
        refine gfX_X0_docketJudge 3 (by decide) C 41 iX0 (List.mem_cons_of_mem _ (List.mem_append_right _ wgL_14_3.1)) dX2_docketStands_41 ?_
        refine g_iload_n C 44 1 dX2_docketStands_44 rfl ?_
        refine g_iald C 45 (10 + 51) 0 (wX_arr 51 (by decide)) rfl dX2_docketStands_45 ?_
        refine g_callVi (st := []) (As := [.int (u7.2 51 (Int32.toNatClampNeg x4))]) C EX_ok EX_vm 46 4 1 (tX0_hasJudge F 3 (by decide) (u7.2 51 (Int32.toNatClampNeg x4)) u7) rfl gX2_docketStands_X0_hasJudge rfl rfl rfl (by decide +kernel) ⟨Nat.le_of_ble_eq_true rfl, Nat.le_of_ble_eq_true rfl⟩ (wX_X0 ad cI cZ _ 3 (by decide)) rfl rfl (Nat.le_of_ble_eq_true rfl) dX2_docketStands_46 (fun r10 u9 => ?_)
        refine g_if_ne C 49 59 dX2_docketStands_49 (by decide) ?_ ?_
        · skip
          refine g_iinc C 59 1 [(1, .int (x4 + 1)), (0, .ref (ad 5))] dX2_docketStands_59 rfl rfl (by decide) rfl ?_
          refine g_goto C 62 2 dX2_docketStands_62 (by decide) ?_
          exact g_sub _ [1, 0] rfl (hself6 (x4 + 1) u9)
        · skip
          exact g_sub _ [0] rfl (hJ52 u9)
def pX6_copyRow (F : Nat) (p1 : Nat) (p2 : Nat) (u : St) : Option (Unit × St) :=
  gd (cpk 0 0 (if (Int32.ofNat (lenX p2)) < (Int32.ofNat (lenX p1)) then (Int32.ofNat (lenX p2)) else (Int32.ofNat (lenX p1))) (lenX p1) (lenX p2)) (vl (stw u p2 (va_cpy (u.2 p1) (u.2 p2) (Int32.toNatClampNeg 0) (Int32.toNatClampNeg 0) (Int32.toNatClampNeg (if (Int32.ofNat (lenX p2)) < (Int32.ofNat (lenX p1)) then (Int32.ofNat (lenX p2)) else (Int32.ofNat (lenX p1)))))) (fun (u1 : St) => some ((), u1)))
set_option maxRecDepth 100000 in
set_option maxHeartbeats 4000000 in
theorem tX6_copyRow {l : Launch} {D : va_G} {cI cZ : ClassId} {ad : Nat → Nat} {tBURNS tFLAME_BOUNDS : Nat} {tS : Option Nat} {adK adV : Nat → Nat} (F : Nat) (p1 : Nat) (hp1 : p1 < 66) (p2 : Nat) (hp2 : p2 < 66) (u : St) : CtV l D [(cI, .int), (cZ, .boolean)] (wX ad cI cZ) (EX tBURNS tFLAME_BOUNDS tS adK adV) yX6_copyRow wsX6_copyRow ({ frames := 1, cells := 0, slots := 0, locals := 18 } : Room) [.ref (ad (10 + p1)), .ref (ad (10 + p2))] u (pX6_copyRow F p1 p2 u) := by
  refine ctV_of (own := RX6) (cc := cX6_copyRow) (n := 2) (ret := none) (by decide) rfl rfl (Nat.le_of_ble_eq_true rfl) (lv := [(0, .ref (ad (10 + p1))), (1, .ref (ad (10 + p2)))]) rfl (fun C => ?_)
  rw [pX6_copyRow]
  refine g_aload_n C 0 0 dX6_copyRow_0 rfl ?_
  refine g_iconst C 1 0 dX6_copyRow_1 rfl ?_
  refine g_aload_n C 2 1 dX6_copyRow_2 rfl ?_
  refine g_iconst C 3 0 dX6_copyRow_3 rfl ?_
  refine g_aload_n C 4 0 dX6_copyRow_4 rfl ?_
  refine g_alen C 5 (10 + p1) 0 (wX_arr p1 hp1) rfl dX6_copyRow_5 ?_
  refine g_aload_n C 6 1 dX6_copyRow_6 rfl ?_
  refine g_alen C 7 (10 + p2) 0 (wX_arr p2 hp2) rfl dX6_copyRow_7 ?_
  refine g_mmin C 8 (by decide +kernel) (by decide +kernel) (by decide +kernel) (by decide +kernel) ⟨Nat.le_of_ble_eq_true rfl, Nat.le_of_ble_eq_true rfl⟩ dX6_copyRow_8 ?_
  refine g_copy C 11 (10 + p1) (10 + p2) 0 p1 p2 (by decide +kernel) (by decide +kernel) (by decide +kernel) (by decide +kernel) (wX_arr p1 hp1) (wX_arr p2 hp2) (wX_aset p2 hp2) rfl ⟨Nat.le_of_ble_eq_true rfl, Nat.le_of_ble_eq_true rfl⟩ dX6_copyRow_11 (fun u1 => ?_)
  exact g_vret C 14 dX6_copyRow_14
def pX0_becomes (F : Nat) (j : Nat) (p1 : Nat) (u : St) : Option (Unit × St) :=
  vl (stf u (4 * j + 0) (u.1 (4 * p1 + 0))) (fun (u1 : St) => vl (stf u1 (4 * j + 1) (u1.1 (4 * p1 + 1))) (fun (u2 : St) => vl (stf u2 (4 * j + 2) (u2.1 (4 * p1 + 2))) (fun (u3 : St) => vl (stf u3 (4 * j + 3) (u3.1 (4 * p1 + 3))) (fun (u4 : St) => bd (pX6_copyRow F (13 * p1 + 0) (13 * j + 0) u4) (fun (_ : Unit) (u5 : St) => bd (pX6_copyRow F (13 * p1 + 1) (13 * j + 1) u5) (fun (_ : Unit) (u6 : St) => bd (pX6_copyRow F (13 * p1 + 2) (13 * j + 2) u6) (fun (_ : Unit) (u7 : St) => bd (pX6_copyRow F (13 * p1 + 3) (13 * j + 3) u7) (fun (_ : Unit) (u8 : St) => bd (pX6_copyRow F (13 * p1 + 4) (13 * j + 4) u8) (fun (_ : Unit) (u9 : St) => bd (pX6_copyRow F (13 * p1 + 5) (13 * j + 5) u9) (fun (_ : Unit) (u10 : St) => bd (pX6_copyRow F (13 * p1 + 6) (13 * j + 6) u10) (fun (_ : Unit) (u11 : St) => bd (pX6_copyRow F (13 * p1 + 7) (13 * j + 7) u11) (fun (_ : Unit) (u12 : St) => bd (pX6_copyRow F (13 * p1 + 8) (13 * j + 8) u12) (fun (_ : Unit) (u13 : St) => bd (pX6_copyRow F (13 * p1 + 9) (13 * j + 9) u13) (fun (_ : Unit) (u14 : St) => bd (pX6_copyRow F (13 * p1 + 10) (13 * j + 10) u14) (fun (_ : Unit) (u15 : St) => bd (pX6_copyRow F (13 * p1 + 11) (13 * j + 11) u15) (fun (_ : Unit) (u16 : St) => bd (pX6_copyRow F (13 * p1 + 12) (13 * j + 12) u16) (fun (_ : Unit) (u17 : St) => some ((), u17))))))))))))))))))
set_option maxRecDepth 100000 in
set_option maxHeartbeats 4000000 in
theorem tX0_becomes {l : Launch} {D : va_G} {cI cZ : ClassId} {ad : Nat → Nat} {tBURNS tFLAME_BOUNDS : Nat} {tS : Option Nat} {adK adV : Nat → Nat} (F : Nat) (j : Nat) (hj : j < 4) (p1 : Nat) (hp1 : p1 < 4) (u : St) : CtV l D [(cI, .int), (cZ, .boolean)] (wX ad cI cZ) (EX tBURNS tFLAME_BOUNDS tS adK adV) yX0_becomes wsX0_becomes ({ frames := 2, cells := 0, slots := 0, locals := 39 } : Room) [.ref (ad (1 + j)), .ref (ad (1 + p1))] u (pX0_becomes F j p1 u) := by
  refine ctV_of (own := RX0) (cc := cX0_becomes) (n := 2) (ret := none) (by decide) rfl rfl (Nat.le_of_ble_eq_true rfl) (lv := [(0, .ref (ad (1 + j))), (1, .ref (ad (1 + p1)))]) rfl (fun C => ?_)
  have iX0 : ∀ w ∈ wsX00, w ∈ wsX0_becomes := fun w h => List.mem_cons_of_mem _ (List.mem_append_right _ (inlX0 w h))
  rw [pX0_becomes]
  refine g_aload_n C 0 0 dX0_becomes_0 rfl ?_
  refine g_aload_n C 1 1 dX0_becomes_1 rfl ?_
  refine gfX_X0_cases p1 hp1 C 2 iX0 (List.mem_cons_of_mem _ (List.mem_append_right _ wgL_2_23.1)) dX0_becomes_2 ?_
  refine pfX_X0_cases j hj C 5 iX0 (List.mem_cons_of_mem _ (List.mem_append_right _ wgL_2_23.1)) dX0_becomes_5 (fun u1 => ?_)
  refine g_aload_n C 8 0 dX0_becomes_8 rfl ?_
  refine g_aload_n C 9 1 dX0_becomes_9 rfl ?_
  refine gfX_X0_judges p1 hp1 C 10 iX0 (List.mem_cons_of_mem _ (List.mem_append_right _ wgL_3_0.1)) dX0_becomes_10 ?_
  refine pfX_X0_judges j hj C 13 iX0 (List.mem_cons_of_mem _ (List.mem_append_right _ wgL_3_0.1)) dX0_becomes_13 (fun u2 => ?_)
  refine g_aload_n C 16 0 dX0_becomes_16 rfl ?_
  refine g_aload_n C 17 1 dX0_becomes_17 rfl ?_
  refine gfX_X0_draughts p1 hp1 C 18 iX0 (List.mem_cons_of_mem _ (List.mem_append_right _ wgL_3_1.1)) dX0_becomes_18 ?_
  refine pfX_X0_draughts j hj C 21 iX0 (List.mem_cons_of_mem _ (List.mem_append_right _ wgL_3_1.1)) dX0_becomes_21 (fun u3 => ?_)
  refine g_aload_n C 24 0 dX0_becomes_24 rfl ?_
  refine g_aload_n C 25 1 dX0_becomes_25 rfl ?_
  refine gfX_X0_hearings p1 hp1 C 26 iX0 (List.mem_cons_of_mem _ (List.mem_append_right _ wgL_3_2.1)) dX0_becomes_26 ?_
  refine pfX_X0_hearings j hj C 29 iX0 (List.mem_cons_of_mem _ (List.mem_append_right _ wgL_3_2.1)) dX0_becomes_29 (fun u4 => ?_)
  refine g_aload_n C 32 1 dX0_becomes_32 rfl ?_
  refine gfX_X0_kind p1 hp1 C 33 iX0 (List.mem_cons_of_mem _ (List.mem_append_right _ wgL_3_3.1)) dX0_becomes_33 ?_
  refine g_aload_n C 36 0 dX0_becomes_36 rfl ?_
  refine gfX_X0_kind j hj C 37 iX0 (List.mem_cons_of_mem _ (List.mem_append_right _ wgL_3_3.1)) dX0_becomes_37 ?_
  refine g_callNv (st := []) (As := [.ref (ad (10 + (13 * p1 + 0))), .ref (ad (10 + (13 * j + 0)))]) C EX_ok EX_vm 40 2 (tX6_copyRow F (13 * p1 + 0) (by omega) (13 * j + 0) (by omega) u4) rfl ggX0_becomes_X6_copyRow rfl rfl rfl (EX_n2 C.2.2.2.2.2.2.2.2.1) (by decide +kernel) (by decide +kernel) (by decide +kernel) ⟨Nat.le_of_ble_eq_true rfl, Nat.le_of_ble_eq_true rfl⟩ rfl (Nat.le_of_ble_eq_true rfl) dX0_becomes_40 (fun u5 => ?_)
  refine g_aload_n C 43 1 dX0_becomes_43 rfl ?_
  refine gfX_X0_length p1 hp1 C 44 iX0 (List.mem_cons_of_mem _ (List.mem_append_right _ wgL_3_4.1)) dX0_becomes_44 ?_
  refine g_aload_n C 47 0 dX0_becomes_47 rfl ?_
  refine gfX_X0_length j hj C 48 iX0 (List.mem_cons_of_mem _ (List.mem_append_right _ wgL_3_4.1)) dX0_becomes_48 ?_
  refine g_callNv (st := []) (As := [.ref (ad (10 + (13 * p1 + 1))), .ref (ad (10 + (13 * j + 1)))]) C EX_ok EX_vm 51 2 (tX6_copyRow F (13 * p1 + 1) (by omega) (13 * j + 1) (by omega) u5) rfl ggX0_becomes_X6_copyRow rfl rfl rfl (EX_n2 C.2.2.2.2.2.2.2.2.1) (by decide +kernel) (by decide +kernel) (by decide +kernel) ⟨Nat.le_of_ble_eq_true rfl, Nat.le_of_ble_eq_true rfl⟩ rfl (Nat.le_of_ble_eq_true rfl) dX0_becomes_51 (fun u6 => ?_)
  refine g_aload_n C 54 1 dX0_becomes_54 rfl ?_
  refine gfX_X0_guard p1 hp1 C 55 iX0 (List.mem_cons_of_mem _ (List.mem_append_right _ wgL_3_5.1)) dX0_becomes_55 ?_
  refine g_aload_n C 58 0 dX0_becomes_58 rfl ?_
  refine gfX_X0_guard j hj C 59 iX0 (List.mem_cons_of_mem _ (List.mem_append_right _ wgL_3_5.1)) dX0_becomes_59 ?_
  refine g_callNv (st := []) (As := [.ref (ad (10 + (13 * p1 + 2))), .ref (ad (10 + (13 * j + 2)))]) C EX_ok EX_vm 62 2 (tX6_copyRow F (13 * p1 + 2) (by omega) (13 * j + 2) (by omega) u6) rfl ggX0_becomes_X6_copyRow rfl rfl rfl (EX_n2 C.2.2.2.2.2.2.2.2.1) (by decide +kernel) (by decide +kernel) (by decide +kernel) ⟨Nat.le_of_ble_eq_true rfl, Nat.le_of_ble_eq_true rfl⟩ rfl (Nat.le_of_ble_eq_true rfl) dX0_becomes_62 (fun u7 => ?_)
  refine g_aload_n C 65 1 dX0_becomes_65 rfl ?_
  refine gfX_X0_verdict p1 hp1 C 66 iX0 (List.mem_cons_of_mem _ (List.mem_append_right _ wgL_3_6.1)) dX0_becomes_66 ?_
  refine g_aload_n C 69 0 dX0_becomes_69 rfl ?_
  refine gfX_X0_verdict j hj C 70 iX0 (List.mem_cons_of_mem _ (List.mem_append_right _ wgL_3_6.1)) dX0_becomes_70 ?_
  refine g_callNv (st := []) (As := [.ref (ad (10 + (13 * p1 + 3))), .ref (ad (10 + (13 * j + 3)))]) C EX_ok EX_vm 73 2 (tX6_copyRow F (13 * p1 + 3) (by omega) (13 * j + 3) (by omega) u7) rfl ggX0_becomes_X6_copyRow rfl rfl rfl (EX_n2 C.2.2.2.2.2.2.2.2.1) (by decide +kernel) (by decide +kernel) (by decide +kernel) ⟨Nat.le_of_ble_eq_true rfl, Nat.le_of_ble_eq_true rfl⟩ rfl (Nat.le_of_ble_eq_true rfl) dX0_becomes_73 (fun u8 => ?_)
  refine g_aload_n C 76 1 dX0_becomes_76 rfl ?_
  refine gfX_X0_appealed p1 hp1 C 77 iX0 (List.mem_cons_of_mem _ (List.mem_append_right _ wgL_3_7.1)) dX0_becomes_77 ?_
  refine g_aload_n C 80 0 dX0_becomes_80 rfl ?_
  refine gfX_X0_appealed j hj C 81 iX0 (List.mem_cons_of_mem _ (List.mem_append_right _ wgL_3_7.1)) dX0_becomes_81 ?_
  refine g_callNv (st := []) (As := [.ref (ad (10 + (13 * p1 + 4))), .ref (ad (10 + (13 * j + 4)))]) C EX_ok EX_vm 84 2 (tX6_copyRow F (13 * p1 + 4) (by omega) (13 * j + 4) (by omega) u8) rfl ggX0_becomes_X6_copyRow rfl rfl rfl (EX_n2 C.2.2.2.2.2.2.2.2.1) (by decide +kernel) (by decide +kernel) (by decide +kernel) ⟨Nat.le_of_ble_eq_true rfl, Nat.le_of_ble_eq_true rfl⟩ rfl (Nat.le_of_ble_eq_true rfl) dX0_becomes_84 (fun u9 => ?_)
  refine g_aload_n C 87 1 dX0_becomes_87 rfl ?_
  refine gfX_X0_endMinute p1 hp1 C 88 iX0 (List.mem_cons_of_mem _ (List.mem_append_right _ wgL_3_8.1)) dX0_becomes_88 ?_
  refine g_aload_n C 91 0 dX0_becomes_91 rfl ?_
  refine gfX_X0_endMinute j hj C 92 iX0 (List.mem_cons_of_mem _ (List.mem_append_right _ wgL_3_8.1)) dX0_becomes_92 ?_
  refine g_callNv (st := []) (As := [.ref (ad (10 + (13 * p1 + 5))), .ref (ad (10 + (13 * j + 5)))]) C EX_ok EX_vm 95 2 (tX6_copyRow F (13 * p1 + 5) (by omega) (13 * j + 5) (by omega) u9) rfl ggX0_becomes_X6_copyRow rfl rfl rfl (EX_n2 C.2.2.2.2.2.2.2.2.1) (by decide +kernel) (by decide +kernel) (by decide +kernel) ⟨Nat.le_of_ble_eq_true rfl, Nat.le_of_ble_eq_true rfl⟩ rfl (Nat.le_of_ble_eq_true rfl) dX0_becomes_95 (fun u10 => ?_)
  refine g_aload_n C 98 1 dX0_becomes_98 rfl ?_
  refine gfX_X0_endJudge p1 hp1 C 99 iX0 (List.mem_cons_of_mem _ (List.mem_append_right _ wgL_3_9.1)) dX0_becomes_99 ?_
  refine g_aload_n C 102 0 dX0_becomes_102 rfl ?_
  refine gfX_X0_endJudge j hj C 103 iX0 (List.mem_cons_of_mem _ (List.mem_append_right _ wgL_3_9.1)) dX0_becomes_103 ?_
  refine g_callNv (st := []) (As := [.ref (ad (10 + (13 * p1 + 6))), .ref (ad (10 + (13 * j + 6)))]) C EX_ok EX_vm 106 2 (tX6_copyRow F (13 * p1 + 6) (by omega) (13 * j + 6) (by omega) u10) rfl ggX0_becomes_X6_copyRow rfl rfl rfl (EX_n2 C.2.2.2.2.2.2.2.2.1) (by decide +kernel) (by decide +kernel) (by decide +kernel) ⟨Nat.le_of_ble_eq_true rfl, Nat.le_of_ble_eq_true rfl⟩ rfl (Nat.le_of_ble_eq_true rfl) dX0_becomes_106 (fun u11 => ?_)
  refine g_aload_n C 109 1 dX0_becomes_109 rfl ?_
  refine gfX_X0_habit p1 hp1 C 110 iX0 (List.mem_cons_of_mem _ (List.mem_append_right _ wgL_3_10.1)) dX0_becomes_110 ?_
  refine g_aload_n C 113 0 dX0_becomes_113 rfl ?_
  refine gfX_X0_habit j hj C 114 iX0 (List.mem_cons_of_mem _ (List.mem_append_right _ wgL_3_10.1)) dX0_becomes_114 ?_
  refine g_callNv (st := []) (As := [.ref (ad (10 + (13 * p1 + 7))), .ref (ad (10 + (13 * j + 7)))]) C EX_ok EX_vm 117 2 (tX6_copyRow F (13 * p1 + 7) (by omega) (13 * j + 7) (by omega) u11) rfl ggX0_becomes_X6_copyRow rfl rfl rfl (EX_n2 C.2.2.2.2.2.2.2.2.1) (by decide +kernel) (by decide +kernel) (by decide +kernel) ⟨Nat.le_of_ble_eq_true rfl, Nat.le_of_ble_eq_true rfl⟩ rfl (Nat.le_of_ble_eq_true rfl) dX0_becomes_117 (fun u12 => ?_)
  refine g_aload_n C 120 1 dX0_becomes_120 rfl ?_
  refine gfX_X0_slow p1 hp1 C 121 iX0 (List.mem_cons_of_mem _ (List.mem_append_right _ wgL_3_11.1)) dX0_becomes_121 ?_
  refine g_aload_n C 124 0 dX0_becomes_124 rfl ?_
  refine gfX_X0_slow j hj C 125 iX0 (List.mem_cons_of_mem _ (List.mem_append_right _ wgL_3_11.1)) dX0_becomes_125 ?_
  refine g_callNv (st := []) (As := [.ref (ad (10 + (13 * p1 + 8))), .ref (ad (10 + (13 * j + 8)))]) C EX_ok EX_vm 128 2 (tX6_copyRow F (13 * p1 + 8) (by omega) (13 * j + 8) (by omega) u12) rfl ggX0_becomes_X6_copyRow rfl rfl rfl (EX_n2 C.2.2.2.2.2.2.2.2.1) (by decide +kernel) (by decide +kernel) (by decide +kernel) ⟨Nat.le_of_ble_eq_true rfl, Nat.le_of_ble_eq_true rfl⟩ rfl (Nat.le_of_ble_eq_true rfl) dX0_becomes_128 (fun u13 => ?_)
  refine g_aload_n C 131 1 dX0_becomes_131 rfl ?_
  refine gfX_X0_minute p1 hp1 C 132 iX0 (List.mem_cons_of_mem _ (List.mem_append_right _ wgL_3_12.1)) dX0_becomes_132 ?_
  refine g_aload_n C 135 0 dX0_becomes_135 rfl ?_
  refine gfX_X0_minute j hj C 136 iX0 (List.mem_cons_of_mem _ (List.mem_append_right _ wgL_3_12.1)) dX0_becomes_136 ?_
  refine g_callNv (st := []) (As := [.ref (ad (10 + (13 * p1 + 9))), .ref (ad (10 + (13 * j + 9)))]) C EX_ok EX_vm 139 2 (tX6_copyRow F (13 * p1 + 9) (by omega) (13 * j + 9) (by omega) u13) rfl ggX0_becomes_X6_copyRow rfl rfl rfl (EX_n2 C.2.2.2.2.2.2.2.2.1) (by decide +kernel) (by decide +kernel) (by decide +kernel) ⟨Nat.le_of_ble_eq_true rfl, Nat.le_of_ble_eq_true rfl⟩ rfl (Nat.le_of_ble_eq_true rfl) dX0_becomes_139 (fun u14 => ?_)
  refine g_aload_n C 142 1 dX0_becomes_142 rfl ?_
  refine gfX_X0_strength p1 hp1 C 143 iX0 (List.mem_cons_of_mem _ (List.mem_append_right _ wgL_3_13.1)) dX0_becomes_143 ?_
  refine g_aload_n C 146 0 dX0_becomes_146 rfl ?_
  refine gfX_X0_strength j hj C 147 iX0 (List.mem_cons_of_mem _ (List.mem_append_right _ wgL_3_13.1)) dX0_becomes_147 ?_
  refine g_callNv (st := []) (As := [.ref (ad (10 + (13 * p1 + 10))), .ref (ad (10 + (13 * j + 10)))]) C EX_ok EX_vm 150 2 (tX6_copyRow F (13 * p1 + 10) (by omega) (13 * j + 10) (by omega) u14) rfl ggX0_becomes_X6_copyRow rfl rfl rfl (EX_n2 C.2.2.2.2.2.2.2.2.1) (by decide +kernel) (by decide +kernel) (by decide +kernel) ⟨Nat.le_of_ble_eq_true rfl, Nat.le_of_ble_eq_true rfl⟩ rfl (Nat.le_of_ble_eq_true rfl) dX0_becomes_150 (fun u15 => ?_)
  refine g_aload_n C 153 1 dX0_becomes_153 rfl ?_
  refine gfX_X0_docketCase p1 hp1 C 154 iX0 (List.mem_cons_of_mem _ (List.mem_append_right _ wgL_3_14.1)) dX0_becomes_154 ?_
  refine g_aload_n C 157 0 dX0_becomes_157 rfl ?_
  refine gfX_X0_docketCase j hj C 158 iX0 (List.mem_cons_of_mem _ (List.mem_append_right _ wgL_3_14.1)) dX0_becomes_158 ?_
  refine g_callNv (st := []) (As := [.ref (ad (10 + (13 * p1 + 11))), .ref (ad (10 + (13 * j + 11)))]) C EX_ok EX_vm 161 2 (tX6_copyRow F (13 * p1 + 11) (by omega) (13 * j + 11) (by omega) u15) rfl ggX0_becomes_X6_copyRow rfl rfl rfl (EX_n2 C.2.2.2.2.2.2.2.2.1) (by decide +kernel) (by decide +kernel) (by decide +kernel) ⟨Nat.le_of_ble_eq_true rfl, Nat.le_of_ble_eq_true rfl⟩ rfl (Nat.le_of_ble_eq_true rfl) dX0_becomes_161 (fun u16 => ?_)
  refine g_aload_n C 164 1 dX0_becomes_164 rfl ?_
  refine gfX_X0_docketJudge p1 hp1 C 165 iX0 (List.mem_cons_of_mem _ (List.mem_append_right _ wgL_3_15.1)) dX0_becomes_165 ?_
  refine g_aload_n C 168 0 dX0_becomes_168 rfl ?_
  refine gfX_X0_docketJudge j hj C 169 iX0 (List.mem_cons_of_mem _ (List.mem_append_right _ wgL_3_15.1)) dX0_becomes_169 ?_
  refine g_callNv (st := []) (As := [.ref (ad (10 + (13 * p1 + 12))), .ref (ad (10 + (13 * j + 12)))]) C EX_ok EX_vm 172 2 (tX6_copyRow F (13 * p1 + 12) (by omega) (13 * j + 12) (by omega) u16) rfl ggX0_becomes_X6_copyRow rfl rfl rfl (EX_n2 C.2.2.2.2.2.2.2.2.1) (by decide +kernel) (by decide +kernel) (by decide +kernel) ⟨Nat.le_of_ble_eq_true rfl, Nat.le_of_ble_eq_true rfl⟩ rfl (Nat.le_of_ble_eq_true rfl) dX0_becomes_172 (fun u17 => ?_)
  exact g_vret C 175 dX0_becomes_175
def jX6_text_45 (F : Nat)  (a3 : Int32) (a4 : Int32) (u5 : St) : Option (Int32 × St) :=
  jn (fun (a6 : Int32) (u7 : St) => vl (stf u7 17 0) (fun (u8 : St) => if a6 = 0 then some (((-10) - (u8.1 21)), u8) else bd (pX0_becomes F 0 3 u8) (fun (_ : Unit) (u9 : St) => vl (stf u9 29 0) (fun (u10 : St) => gd (inb 0 2) (vl (stz u10 66 0 0) (fun (u11 : St) => gd (inb 1 2) (vl (stz u11 66 1 0) (fun (u12 : St) => some (a3, u12))))))))) (fun (J64 : Int32 → St → Option (Int32 × St)) => jn (fun (u13 : St) => (J64 0 u13)) (fun (J63 : St → Option (Int32 × St)) => if a4 = 0 then (J63 u5) else bd (pX2_docketStands F u5) (fun (r15 : Int32) (u14 : St) => if r15 = 0 then (J63 u14) else (J64 1 u14))))
def bX6_text_10 (F : Nat) (J45 : Int32 → Int32 → St → Option (Int32 × St)) (self19 : Int32 → Int32 → St → Option (Int32 × St)) (x16 : Int32) (x17 : Int32) (u18 : St) : Option (Int32 × St) :=
  if x17 = 0 then (J45 x16 x17 u18) else if 160 ≤ x16 then (J45 x16 x17 u18) else bd (pX2_isAtEnd F u18) (fun (r21 : Int32) (u20 : St) => if r21 = 0 then bd (pX2_takesLine F u20) (fun (r23 : Int32) (u22 : St) => (self19 (x16 + 1) r23 u22)) else (J45 x16 x17 u20))
def pX6_text (F : Nat)  (u : St) : Option (Int32 × St) :=
  bd (pX2_begins F u) (fun (r2 : Int32) (u1 : St) => jn (jX6_text_45 F) (fun (J45 : Int32 → Int32 → St → Option (Int32 × St)) => (lq2 (bX6_text_10 F J45) F 0 r2 u1)))
set_option maxRecDepth 100000 in
set_option maxHeartbeats 4000000 in
theorem tX6_text {l : Launch} {D : va_G} {cI cZ : ClassId} {ad : Nat → Nat} {tBURNS tFLAME_BOUNDS : Nat} {tS : Option Nat} {adK adV : Nat → Nat} (F : Nat)  (u : St) : CtI l D [(cI, .int), (cZ, .boolean)] (wX ad cI cZ) (EX tBURNS tFLAME_BOUNDS tS adK adV) yX6_text wsX6_text ({ frames := 9, cells := 0, slots := 0, locals := 190 } : Room) [.ref (ad 0)] u (pX6_text F u) := by
  refine ctI_of (own := RX6) (cc := cX6_text) (n := 3) (ret := (some .int)) (by decide) rfl rfl (Nat.le_of_ble_eq_true rfl) (lv := [(0, .ref (ad 0))]) rfl (fun C => ?_)
  have iX1 : ∀ w ∈ wsX10, w ∈ wsX6_text := fun w h => List.mem_cons_of_mem _ (List.mem_append_right _ (inlX1 w h))
  have iX2 : ∀ w ∈ wsX20, w ∈ wsX6_text := fun w h => List.mem_cons_of_mem _ (List.mem_append_right _ (inlX2 w h))
  have iX6 : ∀ w ∈ wsX60, w ∈ wsX6_text := fun w h => List.mem_cons_of_mem _ (List.mem_append_right _ (inlX6 w h))
  rw [pX6_text]
  refine g_iconst C 0 0 dX6_text_0 rfl ?_
  refine g_istore_n C 1 [(1, .int 0), (0, .ref (ad 0))] dX6_text_1 (by decide) rfl ?_
  refine g_aload_n C 2 1 dX6_text_2 rfl ?_
  refine gfX_X6_reader C 3 iX6 (List.mem_cons_of_mem _ (List.mem_append_right _ wgL_1_23.1)) dX6_text_3 ?_
  refine g_callVi (st := []) (As := []) C EX_ok EX_vm 6 5 0 (tX2_begins F u) rfl gX6_text_X2_begins rfl rfl rfl (by decide +kernel) ⟨Nat.le_of_ble_eq_true rfl, Nat.le_of_ble_eq_true rfl⟩ rfl rfl rfl (Nat.le_of_ble_eq_true rfl) dX6_text_6 (fun r2 u1 => ?_)
  refine g_istore_n C 9 [(2, .int r2), (1, .int 0), (0, .ref (ad 0))] dX6_text_9 (by decide) rfl ?_
  refine g_jn2 45 (fun (a3 : Int32) (a4 : Int32) => [(0, .ref (ad 0)), (1, .int a3), (2, .int a4)]) (fun (a3 : Int32) (a4 : Int32) => []) (fun a3 a4 u5 => ?_) (fun J45 hJ45 => ?_)
  · skip
    rw [jX6_text_45]
    refine g_iload_n C 45 2 dX6_text_45 rfl ?_
    refine g_jn1 64 (fun (a6 : Int32) => [(0, .ref (ad 0)), (1, .int a3)]) (fun (a6 : Int32) => [.int a6]) (fun a6 u7 => ?_) (fun J64 hJ64 => ?_)
    · skip
      refine g_istore_n C 64 [(2, .int a6), (0, .ref (ad 0)), (1, .int a3)] dX6_text_64 (by decide) rfl ?_
      refine g_aload_n C 65 1 dX6_text_65 rfl ?_
      refine gfX_X6_reader C 66 iX6 (List.mem_cons_of_mem _ (List.mem_append_right _ wgL_1_23.1)) dX6_text_66 ?_
      refine g_iconst C 69 0 dX6_text_69 rfl ?_
      refine pfX_X2_size C 70 iX2 (List.mem_cons_of_mem _ (List.mem_append_right _ wgL_6_7.1)) dX6_text_70 (fun u8 => ?_)
      refine g_iload_n C 73 0 dX6_text_73 rfl ?_
      refine g_if_ne C 74 88 dX6_text_74 (by decide) ?_ ?_
      · skip
        refine g_aload_n C 88 1 dX6_text_88 rfl ?_
        refine gfX_X6_court C 89 iX6 (List.mem_cons_of_mem _ (List.mem_append_right _ wgL_1_15.1)) dX6_text_89 ?_
        refine g_aload_n C 92 1 dX6_text_92 rfl ?_
        refine gfX_X6_reader C 93 iX6 (List.mem_cons_of_mem _ (List.mem_append_right _ wgL_1_23.1)) dX6_text_93 ?_
        refine gfX_X2_told C 96 iX2 (List.mem_cons_of_mem _ (List.mem_append_right _ wgL_7_13.1)) dX6_text_96 ?_
        refine g_callVv (st := []) (As := [.ref (ad 4)]) C EX_ok EX_vm 99 1 1 (tX0_becomes F 0 (by decide) 3 (by decide) u8) rfl gX6_text_X0_becomes rfl rfl rfl (by decide +kernel) ⟨Nat.le_of_ble_eq_true rfl, Nat.le_of_ble_eq_true rfl⟩ (wX_X0 ad cI cZ _ 0 (by decide)) rfl rfl (Nat.le_of_ble_eq_true rfl) dX6_text_99 (fun u9 => ?_)
        refine g_aload_n C 102 1 dX6_text_102 rfl ?_
        refine gfX_X6_memory C 103 iX6 (List.mem_cons_of_mem _ (List.mem_append_right _ wgL_2_11.1)) dX6_text_103 ?_
        refine g_iconst C 106 0 dX6_text_106 rfl ?_
        refine pfX_X1_size C 107 iX1 (List.mem_cons_of_mem _ (List.mem_append_right _ wgL_7_14.1)) dX6_text_107 (fun u10 => ?_)
        refine g_aload_n C 110 1 dX6_text_110 rfl ?_
        refine gfX_X6_kept C 111 iX6 (List.mem_cons_of_mem _ (List.mem_append_right _ wgL_1_19.1)) dX6_text_111 ?_
        refine g_iconst C 114 0 dX6_text_114 rfl ?_
        refine g_iconst C 115 0 dX6_text_115 rfl ?_
        refine g_zast C 116 (10 + 66) 1 66 (wX_arrz 66 (by decide) (by decide)) (wX_asetz 66 (by decide) (by decide)) rfl dX6_text_116 (fun u11 => ?_)
        refine g_aload_n C 117 1 dX6_text_117 rfl ?_
        refine gfX_X6_kept C 118 iX6 (List.mem_cons_of_mem _ (List.mem_append_right _ wgL_1_19.1)) dX6_text_118 ?_
        refine g_iconst C 121 1 dX6_text_121 rfl ?_
        refine g_iconst C 122 0 dX6_text_122 rfl ?_
        refine g_zast C 123 (10 + 66) 1 66 (wX_arrz 66 (by decide) (by decide)) (wX_asetz 66 (by decide) (by decide)) rfl dX6_text_123 (fun u12 => ?_)
        refine g_iload_n C 124 2 dX6_text_124 rfl ?_
        exact g_iret C 125 dX6_text_125
      · skip
        refine g_bipush C 77 (-10) dX6_text_77 rfl ?_
        refine g_aload_n C 79 1 dX6_text_79 rfl ?_
        refine gfX_X6_reader C 80 iX6 (List.mem_cons_of_mem _ (List.mem_append_right _ wgL_1_23.1)) dX6_text_80 ?_
        refine gfX_X2_from C 83 iX2 (List.mem_cons_of_mem _ (List.mem_append_right _ wgL_7_12.1)) dX6_text_83 ?_
        refine g_isub C 86 dX6_text_86 ?_
        exact g_iret C 87 dX6_text_87
    · skip
      refine g_jn0 63 ([(0, .ref (ad 0)), (1, .int a3)]) ([]) (fun u13 => ?_) (fun J63 hJ63 => ?_)
      · skip
        refine g_iconst C 63 0 dX6_text_63 rfl ?_
        exact g_sub _ [0, 1] rfl (hJ64 0 u13)
      · skip
        refine g_if_eq C 46 63 dX6_text_46 (by decide) ?_ ?_
        · skip
          exact g_sub _ [0, 1] rfl (hJ63 u5)
        · skip
          refine g_aload_n C 49 0 dX6_text_49 rfl ?_
          refine gfX_X6_reader C 50 iX6 (List.mem_cons_of_mem _ (List.mem_append_right _ wgL_1_23.1)) dX6_text_50 ?_
          refine g_callVi (st := []) (As := []) C EX_ok EX_vm 53 5 0 (tX2_docketStands F u5) rfl gX6_text_X2_docketStands rfl rfl rfl (by decide +kernel) ⟨Nat.le_of_ble_eq_true rfl, Nat.le_of_ble_eq_true rfl⟩ rfl rfl rfl (Nat.le_of_ble_eq_true rfl) dX6_text_53 (fun r15 u14 => ?_)
          refine g_if_eq C 56 63 dX6_text_56 (by decide) ?_ ?_
          · skip
            exact g_sub _ [0, 1] rfl (hJ63 u14)
          · skip
            refine g_iconst C 59 1 dX6_text_59 rfl ?_
            refine g_goto C 60 64 dX6_text_60 (by decide) ?_
            exact g_sub _ [0, 1] rfl (hJ64 1 u14)
  · skip
    refine g_sub _ [2, 1, 0] rfl ?_
    refine g_lq2 (fun (x16 : Int32) (x17 : Int32) => [(0, .ref (ad 0)), (1, .int x16), (2, .int x17)]) (fun self19 hself19 x16 x17 u18 => ?_) F 0 r2 u1
    rw [bX6_text_10]
    refine g_iload_n C 10 2 dX6_text_10 rfl ?_
    refine g_if_eq C 11 45 dX6_text_11 (by decide) ?_ ?_
    · skip
      exact g_sub _ [0, 1, 2] rfl (hJ45 x16 x17 u18)
    · skip
      refine g_iload_n C 14 1 dX6_text_14 rfl ?_
      refine g_sipush C 15 160 dX6_text_15 rfl ?_
      refine g_icmp_ge C 18 45 dX6_text_18 (by decide) ?_ ?_
      · skip
        exact g_sub _ [0, 1, 2] rfl (hJ45 x16 x17 u18)
      · skip
        refine g_aload_n C 21 0 dX6_text_21 rfl ?_
        refine gfX_X6_reader C 22 iX6 (List.mem_cons_of_mem _ (List.mem_append_right _ wgL_1_23.1)) dX6_text_22 ?_
        refine g_callVi (st := []) (As := []) C EX_ok EX_vm 25 5 0 (tX2_isAtEnd F u18) rfl gX6_text_X2_isAtEnd rfl rfl rfl (by decide +kernel) ⟨Nat.le_of_ble_eq_true rfl, Nat.le_of_ble_eq_true rfl⟩ rfl rfl rfl (Nat.le_of_ble_eq_true rfl) dX6_text_25 (fun r21 u20 => ?_)
        refine g_if_ne C 28 45 dX6_text_28 (by decide) ?_ ?_
        · skip
          exact g_sub _ [0, 1, 2] rfl (hJ45 x16 x17 u20)
        · skip
          refine g_aload_n C 31 0 dX6_text_31 rfl ?_
          refine gfX_X6_reader C 32 iX6 (List.mem_cons_of_mem _ (List.mem_append_right _ wgL_1_23.1)) dX6_text_32 ?_
          refine g_callVi (st := []) (As := []) C EX_ok EX_vm 35 5 0 (tX2_takesLine F u20) rfl gX6_text_X2_takesLine rfl rfl rfl (by decide +kernel) ⟨Nat.le_of_ble_eq_true rfl, Nat.le_of_ble_eq_true rfl⟩ rfl rfl rfl (Nat.le_of_ble_eq_true rfl) dX6_text_35 (fun r23 u22 => ?_)
          refine g_istore_n C 38 [(2, .int r23), (0, .ref (ad 0)), (1, .int x16)] dX6_text_38 (by decide) rfl ?_
          refine g_iinc C 39 2 [(1, .int (x16 + 1)), (2, .int r23), (0, .ref (ad 0))] dX6_text_39 rfl rfl (by decide) rfl ?_
          refine g_goto C 42 10 dX6_text_42 (by decide) ?_
          exact g_sub _ [2, 0, 1] rfl (hself19 (x16 + 1) r23 u22)
def pX6_fault (F : Nat)  (u : St) : Option (Int32 × St) :=
  some ((u.1 18), u)
set_option maxRecDepth 100000 in
set_option maxHeartbeats 4000000 in
theorem tX6_fault {l : Launch} {D : va_G} {cI cZ : ClassId} {ad : Nat → Nat} {tBURNS tFLAME_BOUNDS : Nat} {tS : Option Nat} {adK adV : Nat → Nat} (F : Nat)  (u : St) : CtI l D [(cI, .int), (cZ, .boolean)] (wX ad cI cZ) (EX tBURNS tFLAME_BOUNDS tS adK adV) yX6_fault wsX6_fault ({ frames := 0, cells := 0, slots := 0, locals := 0 } : Room) [.ref (ad 0)] u (pX6_fault F u) := by
  refine ctI_of (own := RX6) (cc := cX6_fault) (n := 1) (ret := (some .int)) (by decide) rfl rfl (Nat.le_of_ble_eq_true rfl) (lv := [(0, .ref (ad 0))]) rfl (fun C => ?_)
  have iX2 : ∀ w ∈ wsX20, w ∈ wsX6_fault := fun w h => List.mem_cons_of_mem _ (List.mem_append_right _ (inlX2 w h))
  have iX6 : ∀ w ∈ wsX60, w ∈ wsX6_fault := fun w h => List.mem_cons_of_mem _ (List.mem_append_right _ (inlX6 w h))
  rw [pX6_fault]
  refine g_aload_n C 0 0 dX6_fault_0 rfl ?_
  refine gfX_X6_reader C 1 iX6 (List.mem_cons_of_mem _ (List.mem_append_right _ wgL_1_23.1)) dX6_fault_1 ?_
  refine gfX_X2_wrong C 4 iX2 (List.mem_cons_of_mem _ (List.mem_append_right _ wgL_17_20.1)) dX6_fault_4 ?_
  exact g_iret C 7 dX6_fault_7
def bX6_bitsOf_5 (F : Nat) (p1 : Nat) (p2 : Int32) (p3 : Int32) (self4 : Int32 → Int32 → St → Option (Int32 × St)) (x1 : Int32) (x2 : Int32) (u3 : St) : Option (Int32 × St) :=
  if p2 ≤ x2 then some (x1, u3) else if (Int32.ofNat (lenX p1)) ≤ x2 then some (x1, u3) else gd (inb x2 (lenX p1)) (jn (fun (a5 : Int32) (u6 : St) => vl (x1 ||| a5) (fun v7 => (self4 v7 (x2 + 1) u6))) (fun (J35 : Int32 → St → Option (Int32 × St)) => if (u3.2 p1 (Int32.toNatClampNeg x2)) = p3 then (J35 (1 <<< (x2 &&& 31)) u3) else (J35 0 u3)))
def pX6_bitsOf (F : Nat) (p1 : Nat) (p2 : Int32) (p3 : Int32) (u : St) : Option (Int32 × St) :=
  (lq2 (bX6_bitsOf_5 F p1 p2 p3) F 0 0 u)
set_option maxRecDepth 100000 in
set_option maxHeartbeats 4000000 in
theorem tX6_bitsOf {l : Launch} {D : va_G} {cI cZ : ClassId} {ad : Nat → Nat} {tBURNS tFLAME_BOUNDS : Nat} {tS : Option Nat} {adK adV : Nat → Nat} (F : Nat) (p1 : Nat) (hp1 : p1 < 66) (p2 : Int32) (p3 : Int32) (u : St) : CtI l D [(cI, .int), (cZ, .boolean)] (wX ad cI cZ) (EX tBURNS tFLAME_BOUNDS tS adK adV) yX6_bitsOf wsX6_bitsOf ({ frames := 0, cells := 0, slots := 0, locals := 0 } : Room) [.ref (ad (10 + p1)), .int p2, .int p3] u (pX6_bitsOf F p1 p2 p3 u) := by
  refine ctI_of (own := RX6) (cc := cX6_bitsOf) (n := 5) (ret := (some .int)) (by decide) rfl rfl (Nat.le_of_ble_eq_true rfl) (lv := [(0, .ref (ad (10 + p1))), (1, .int p2), (2, .int p3)]) rfl (fun C => ?_)
  rw [pX6_bitsOf]
  refine g_iconst C 0 0 dX6_bitsOf_0 rfl ?_
  refine g_istore_n C 1 [(3, .int 0), (0, .ref (ad (10 + p1))), (1, .int p2), (2, .int p3)] dX6_bitsOf_1 (by decide) rfl ?_
  refine g_iconst C 2 0 dX6_bitsOf_2 rfl ?_
  refine g_istore C 3 [(4, .int 0), (3, .int 0), (0, .ref (ad (10 + p1))), (1, .int p2), (2, .int p3)] dX6_bitsOf_3 (by decide) rfl ?_
  refine g_sub _ [2, 3, 4, 1, 0] rfl ?_
  refine g_lq2 (fun (x1 : Int32) (x2 : Int32) => [(0, .ref (ad (10 + p1))), (1, .int p2), (2, .int p3), (3, .int x1), (4, .int x2)]) (fun self4 hself4 x1 x2 u3 => ?_) F 0 0 u
  rw [bX6_bitsOf_5]
  refine g_iload C 5 4 dX6_bitsOf_5 rfl ?_
  refine g_iload_n C 7 1 dX6_bitsOf_7 rfl ?_
  refine g_icmp_ge C 8 43 dX6_bitsOf_8 (by decide) ?_ ?_
  · skip
    refine g_iload_n C 43 3 dX6_bitsOf_43 rfl ?_
    exact g_iret C 44 dX6_bitsOf_44
  · skip
    refine g_iload C 11 4 dX6_bitsOf_11 rfl ?_
    refine g_aload_n C 13 0 dX6_bitsOf_13 rfl ?_
    refine g_alen C 14 (10 + p1) 0 (wX_arr p1 hp1) rfl dX6_bitsOf_14 ?_
    refine g_icmp_ge C 15 43 dX6_bitsOf_15 (by decide) ?_ ?_
    · skip
      refine g_iload_n C 43 3 dX6_bitsOf_43 rfl ?_
      exact g_iret C 44 dX6_bitsOf_44
    · skip
      refine g_iload_n C 18 3 dX6_bitsOf_18 rfl ?_
      refine g_aload_n C 19 0 dX6_bitsOf_19 rfl ?_
      refine g_iload C 20 4 dX6_bitsOf_20 rfl ?_
      refine g_iald C 22 (10 + p1) 0 (wX_arr p1 hp1) rfl dX6_bitsOf_22 ?_
      refine g_iload_n C 23 2 dX6_bitsOf_23 rfl ?_
      refine g_jn1 35 (fun (a5 : Int32) => [(0, .ref (ad (10 + p1))), (1, .int p2), (2, .int p3), (4, .int x2)]) (fun (a5 : Int32) => [.int a5, .int x1]) (fun a5 u6 => ?_) (fun J35 hJ35 => ?_)
      · skip
        refine g_ior C 35 dX6_bitsOf_35 ?_
        refine g_istore_nV C 36 (fun v7 => [(3, .int v7), (0, .ref (ad (10 + p1))), (1, .int p2), (2, .int p3), (4, .int x2)]) dX6_bitsOf_36 (by decide) (fun _ => rfl) (fun v7 => ?_)
        refine g_iinc C 37 4 [(4, .int (x2 + 1)), (3, .int v7), (0, .ref (ad (10 + p1))), (1, .int p2), (2, .int p3)] dX6_bitsOf_37 rfl rfl (by decide) rfl ?_
        refine g_goto C 40 5 dX6_bitsOf_40 (by decide) ?_
        exact g_sub _ [2, 3, 4, 1, 0] rfl (hself4 v7 (x2 + 1) u6)
      · skip
        refine g_icmp_ne C 24 34 dX6_bitsOf_24 (by decide) ?_ ?_
        · skip
          refine g_iconst C 34 0 dX6_bitsOf_34 rfl ?_
          exact g_sub _ [0, 1, 2, 4] rfl (hJ35 0 u3)
        · skip
          refine g_iconst C 27 1 dX6_bitsOf_27 rfl ?_
          refine g_iload C 28 4 dX6_bitsOf_28 rfl ?_
          refine g_ishl C 30 dX6_bitsOf_30 ?_
          refine g_goto C 31 35 dX6_bitsOf_31 (by decide) ?_
          exact g_sub _ [0, 1, 2, 4] rfl (hJ35 (1 <<< (x2 &&& 31)) u3)
def bX0_sumOf_4 (F : Nat) (j : Nat) (p1 : Nat) (self4 : Int32 → Int32 → St → Option (Int32 × St)) (x1 : Int32) (x2 : Int32) (u3 : St) : Option (Int32 × St) :=
  if (2 * (u3.1 (4 * j + 0))) ≤ x2 then some (x1, u3) else if (Int32.ofNat (lenX p1)) ≤ x2 then some (x1, u3) else gd (inb x2 (lenX p1)) (vl (x1 + (u3.2 p1 (Int32.toNatClampNeg x2))) (fun v5 => (self4 v5 (x2 + 1) u3)))
def pX0_sumOf (F : Nat) (j : Nat) (p1 : Nat) (u : St) : Option (Int32 × St) :=
  (lq2 (bX0_sumOf_4 F j p1) F 0 0 u)
set_option maxRecDepth 100000 in
set_option maxHeartbeats 4000000 in
theorem tX0_sumOf {l : Launch} {D : va_G} {cI cZ : ClassId} {ad : Nat → Nat} {tBURNS tFLAME_BOUNDS : Nat} {tS : Option Nat} {adK adV : Nat → Nat} (F : Nat) (j : Nat) (hj : j < 4) (p1 : Nat) (hp1 : p1 < 66) (u : St) : CtI l D [(cI, .int), (cZ, .boolean)] (wX ad cI cZ) (EX tBURNS tFLAME_BOUNDS tS adK adV) yX0_sumOf wsX0_sumOf ({ frames := 0, cells := 0, slots := 0, locals := 0 } : Room) [.ref (ad (1 + j)), .ref (ad (10 + p1))] u (pX0_sumOf F j p1 u) := by
  refine ctI_of (own := RX0) (cc := cX0_sumOf) (n := 4) (ret := (some .int)) (by decide) rfl rfl (Nat.le_of_ble_eq_true rfl) (lv := [(0, .ref (ad (1 + j))), (1, .ref (ad (10 + p1)))]) rfl (fun C => ?_)
  have iX0 : ∀ w ∈ wsX00, w ∈ wsX0_sumOf := fun w h => List.mem_cons_of_mem _ (List.mem_append_right _ (inlX0 w h))
  rw [pX0_sumOf]
  refine g_iconst C 0 0 dX0_sumOf_0 rfl ?_
  refine g_istore_n C 1 [(2, .int 0), (0, .ref (ad (1 + j))), (1, .ref (ad (10 + p1)))] dX0_sumOf_1 (by decide) rfl ?_
  refine g_iconst C 2 0 dX0_sumOf_2 rfl ?_
  refine g_istore_n C 3 [(3, .int 0), (2, .int 0), (0, .ref (ad (1 + j))), (1, .ref (ad (10 + p1)))] dX0_sumOf_3 (by decide) rfl ?_
  refine g_sub _ [2, 3, 1, 0] rfl ?_
  refine g_lq2 (fun (x1 : Int32) (x2 : Int32) => [(0, .ref (ad (1 + j))), (1, .ref (ad (10 + p1))), (2, .int x1), (3, .int x2)]) (fun self4 hself4 x1 x2 u3 => ?_) F 0 0 u
  rw [bX0_sumOf_4]
  refine g_iload_n C 4 3 dX0_sumOf_4 rfl ?_
  refine g_iconst C 5 2 dX0_sumOf_5 rfl ?_
  refine g_aload_n C 6 0 dX0_sumOf_6 rfl ?_
  refine gfX_X0_cases j hj C 7 iX0 (List.mem_cons_of_mem _ (List.mem_append_right _ wgL_2_23.1)) dX0_sumOf_7 ?_
  refine g_imul C 10 dX0_sumOf_10 ?_
  refine g_icmp_ge C 11 32 dX0_sumOf_11 (by decide) ?_ ?_
  · skip
    refine g_iload_n C 32 2 dX0_sumOf_32 rfl ?_
    exact g_iret C 33 dX0_sumOf_33
  · skip
    refine g_iload_n C 14 3 dX0_sumOf_14 rfl ?_
    refine g_aload_n C 15 1 dX0_sumOf_15 rfl ?_
    refine g_alen C 16 (10 + p1) 0 (wX_arr p1 hp1) rfl dX0_sumOf_16 ?_
    refine g_icmp_ge C 17 32 dX0_sumOf_17 (by decide) ?_ ?_
    · skip
      refine g_iload_n C 32 2 dX0_sumOf_32 rfl ?_
      exact g_iret C 33 dX0_sumOf_33
    · skip
      refine g_iload_n C 20 2 dX0_sumOf_20 rfl ?_
      refine g_aload_n C 21 1 dX0_sumOf_21 rfl ?_
      refine g_iload_n C 22 3 dX0_sumOf_22 rfl ?_
      refine g_iald C 23 (10 + p1) 0 (wX_arr p1 hp1) rfl dX0_sumOf_23 ?_
      refine g_iadd C 24 dX0_sumOf_24 ?_
      refine g_istore_nV C 25 (fun v5 => [(2, .int v5), (0, .ref (ad (1 + j))), (1, .ref (ad (10 + p1))), (3, .int x2)]) dX0_sumOf_25 (by decide) (fun _ => rfl) (fun v5 => ?_)
      refine g_iinc C 26 3 [(3, .int (x2 + 1)), (2, .int v5), (0, .ref (ad (1 + j))), (1, .ref (ad (10 + p1)))] dX0_sumOf_26 rfl rfl (by decide) rfl ?_
      refine g_goto C 29 4 dX0_sumOf_29 (by decide) ?_
      exact g_sub _ [2, 3, 1, 0] rfl (hself4 v5 (x2 + 1) u3)
