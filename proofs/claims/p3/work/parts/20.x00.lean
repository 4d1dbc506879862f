def pX6_isIn (F : Nat) (p1 : Int64) (p2 : Int32) (p3 : Int32) (u : St) : Option (Int32 × St) :=
  if (lg_cmp p1 (Int32.toInt64 p2)) < 0 then some (0, u) else if 0 < (lg_cmp p1 (Int32.toInt64 p3)) then some (0, u) else some (1, u)
set_option maxRecDepth 100000 in
set_option maxHeartbeats 4000000 in
theorem tX6_isIn {l : Launch} {D : va_G} {cI cZ : ClassId} {ad : Nat → Nat} {tBURNS tFLAME_BOUNDS : Nat} {tS : Option Nat} {adK adV : Nat → Nat} (F : Nat) (p1 : Int64) (p2 : Int32) (p3 : Int32) (u : St) : CtI l D [(cI, .int), (cZ, .boolean)] (wX ad cI cZ) (EX tBURNS tFLAME_BOUNDS tS adK adV) yX6_isIn wsX6_isIn ({ frames := 0, cells := 0, slots := 0, locals := 0 } : Room) [.long p1, .int p2, .int p3] u (pX6_isIn F p1 p2 p3 u) := by
  refine ctI_of (own := RX6) (cc := cX6_isIn) (n := 4) (ret := (some .boolean)) (by decide) rfl rfl (Nat.le_of_ble_eq_true rfl) (lv := [(0, .long p1), (2, .int p2), (3, .int p3)]) rfl (fun C => ?_)
  rw [pX6_isIn]
  refine g_lload_n C 0 0 dX6_isIn_0 rfl ?_
  refine g_iload_n C 1 1 dX6_isIn_1 rfl ?_
  refine g_i2l C 2 dX6_isIn_2 ?_
  refine g_lcmp C 3 dX6_isIn_3 ?_
  refine g_if_lt C 4 18 dX6_isIn_4 (by decide) ?_ ?_
  · skip
    refine g_iconst C 18 0 dX6_isIn_18 rfl ?_
    exact g_nret C 19 rfl dX6_isIn_19
  · skip
    refine g_lload_n C 7 0 dX6_isIn_7 rfl ?_
    refine g_iload_n C 8 2 dX6_isIn_8 rfl ?_
    refine g_i2l C 9 dX6_isIn_9 ?_
    refine g_lcmp C 10 dX6_isIn_10 ?_
    refine g_if_gt C 11 18 dX6_isIn_11 (by decide) ?_ ?_
    · skip
      refine g_iconst C 18 0 dX6_isIn_18 rfl ?_
      exact g_nret C 19 rfl dX6_isIn_19
    · skip
      refine g_iconst C 14 1 dX6_isIn_14 rfl ?_
      refine g_goto C 15 19 dX6_isIn_15 (by decide) ?_
      exact g_nret C 19 rfl dX6_isIn_19
def pX2_add (F : Nat) (p1 : Int32) (u : St) : Option (Int32 × St) :=
  if (u.1 17) < 160 then gd (inb (u.1 17) 160) (vl (sta u 54 (u.1 17) p1) (fun (u1 : St) => vl (stf u1 17 ((u1.1 17) + 1)) (fun (u2 : St) => some (1, u2)))) else some (0, u)
set_option maxRecDepth 100000 in
set_option maxHeartbeats 4000000 in
theorem tX2_add {l : Launch} {D : va_G} {cI cZ : ClassId} {ad : Nat → Nat} {tBURNS tFLAME_BOUNDS : Nat} {tS : Option Nat} {adK adV : Nat → Nat} (F : Nat) (p1 : Int32) (u : St) : CtI l D [(cI, .int), (cZ, .boolean)] (wX ad cI cZ) (EX tBURNS tFLAME_BOUNDS tS adK adV) yX2_add wsX2_add ({ frames := 0, cells := 0, slots := 0, locals := 0 } : Room) [.ref (ad 5), .int p1] u (pX2_add F p1 u) := by
  refine ctI_of (own := RX2) (cc := cX2_add) (n := 2) (ret := (some .boolean)) (by decide) rfl rfl (Nat.le_of_ble_eq_true rfl) (lv := [(0, .ref (ad 5)), (1, .int p1)]) rfl (fun C => ?_)
  have iX2 : ∀ w ∈ wsX20, w ∈ wsX2_add := fun w h => List.mem_cons_of_mem _ (List.mem_append_right _ (inlX2 w h))
  rw [pX2_add]
  refine g_aload_n C 0 0 dX2_add_0 rfl ?_
  refine gfX_X2_size C 1 iX2 (List.mem_cons_of_mem _ (List.mem_append_right _ wgL_3_22.1)) dX2_add_1 ?_
  refine g_sipush C 4 160 dX2_add_4 rfl ?_
  refine g_icmp_lt C 7 12 dX2_add_7 (by decide) ?_ ?_
  · skip
    refine g_aload_n C 12 0 dX2_add_12 rfl ?_
    refine gfX_X2_tape C 13 iX2 (List.mem_cons_of_mem _ (List.mem_append_right _ wgL_3_19.1)) dX2_add_13 ?_
    refine g_aload_n C 16 0 dX2_add_16 rfl ?_
    refine gfX_X2_size C 17 iX2 (List.mem_cons_of_mem _ (List.mem_append_right _ wgL_3_22.1)) dX2_add_17 ?_
    refine g_iload_n C 20 1 dX2_add_20 rfl ?_
    refine g_iast C 21 (10 + 54) 0 54 (wX_arr 54 (by decide)) (wX_aset 54 (by decide)) rfl dX2_add_21 (fun u1 => ?_)
    refine g_aload_n C 22 0 dX2_add_22 rfl ?_
    refine g_dup C 23 dX2_add_23 rfl ?_
    refine gfX_X2_size C 24 iX2 (List.mem_cons_of_mem _ (List.mem_append_right _ wgL_3_22.1)) dX2_add_24 ?_
    refine g_iconst C 27 1 dX2_add_27 rfl ?_
    refine g_iadd C 28 dX2_add_28 ?_
    refine pfX_X2_size C 29 iX2 (List.mem_cons_of_mem _ (List.mem_append_right _ wgL_3_22.1)) dX2_add_29 (fun u2 => ?_)
    refine g_iconst C 32 1 dX2_add_32 rfl ?_
    exact g_nret C 33 rfl dX2_add_33
  · skip
    refine g_iconst C 10 0 dX2_add_10 rfl ?_
    exact g_nret C 11 rfl dX2_add_11
def pX6_feed (F : Nat) (p1 : Int32) (u : St) : Option (Int32 × St) :=
  bd (pX6_isIn F (Int32.toInt64 p1) 0 127 u) (fun (r2 : Int32) (u1 : St) => if r2 = 0 then some ((-1), u1) else bd (pX2_add F p1 u1) (fun (r4 : Int32) (u3 : St) => if r4 = 0 then some ((-3), u3) else some ((u3.1 17), u3)))
set_option maxRecDepth 100000 in
set_option maxHeartbeats 4000000 in
theorem tX6_feed {l : Launch} {D : va_G} {cI cZ : ClassId} {ad : Nat → Nat} {tBURNS tFLAME_BOUNDS : Nat} {tS : Option Nat} {adK adV : Nat → Nat} (F : Nat) (p1 : Int32) (u : St) : CtI l D [(cI, .int), (cZ, .boolean)] (wX ad cI cZ) (EX tBURNS tFLAME_BOUNDS tS adK adV) yX6_feed wsX6_feed ({ frames := 1, cells := 0, slots := 0, locals := 23 } : Room) [.ref (ad 0), .int p1] u (pX6_feed F p1 u) := by
  refine ctI_of (own := RX6) (cc := cX6_feed) (n := 2) (ret := (some .int)) (by decide) rfl rfl (Nat.le_of_ble_eq_true rfl) (lv := [(0, .ref (ad 0)), (1, .int p1)]) rfl (fun C => ?_)
  have iX2 : ∀ w ∈ wsX20, w ∈ wsX6_feed := fun w h => List.mem_cons_of_mem _ (List.mem_append_right _ (inlX2 w h))
  have iX6 : ∀ w ∈ wsX60, w ∈ wsX6_feed := fun w h => List.mem_cons_of_mem _ (List.mem_append_right _ (inlX6 w h))
  rw [pX6_feed]
  refine g_iload_n C 0 1 dX6_feed_0 rfl ?_
  refine g_i2l C 1 dX6_feed_1 ?_
  refine g_iconst C 2 0 dX6_feed_2 rfl ?_
  refine g_bipush C 3 127 dX6_feed_3 rfl ?_
  refine g_callSi (st := []) (As := [.long (Int32.toInt64 p1), .int 0, .int 127]) C EX_ok EX_vm 5 3 (tX6_isIn F (Int32.toInt64 p1) 0 127 u) rfl gX6_feed_X6_isIn rfl rfl rfl (by decide +kernel) ⟨Nat.le_of_ble_eq_true rfl, Nat.le_of_ble_eq_true rfl⟩ rfl (Nat.le_of_ble_eq_true rfl) dX6_feed_5 (fun r2 u1 => ?_)
  refine g_if_ne C 8 13 dX6_feed_8 (by decide) ?_ ?_
  · skip
    refine g_aload_n C 13 0 dX6_feed_13 rfl ?_
    refine gfX_X6_reader C 14 iX6 (List.mem_cons_of_mem _ (List.mem_append_right _ wgL_1_23.1)) dX6_feed_14 ?_
    refine g_iload_n C 17 1 dX6_feed_17 rfl ?_
    refine g_callVi (st := []) (As := [.int p1]) C EX_ok EX_vm 18 5 1 (tX2_add F p1 u1) rfl gX6_feed_X2_add rfl rfl rfl (by decide +kernel) ⟨Nat.le_of_ble_eq_true rfl, Nat.le_of_ble_eq_true rfl⟩ rfl rfl rfl (Nat.le_of_ble_eq_true rfl) dX6_feed_18 (fun r4 u3 => ?_)
    refine g_if_eq C 21 34 dX6_feed_21 (by decide) ?_ ?_
    · skip
      refine g_bipush C 34 (-3) dX6_feed_34 rfl ?_
      exact g_iret C 36 dX6_feed_36
    · skip
      refine g_aload_n C 24 0 dX6_feed_24 rfl ?_
      refine gfX_X6_reader C 25 iX6 (List.mem_cons_of_mem _ (List.mem_append_right _ wgL_1_23.1)) dX6_feed_25 ?_
      refine gfX_X2_size C 28 iX2 (List.mem_cons_of_mem _ (List.mem_append_right _ wgL_6_7.1)) dX6_feed_28 ?_
      refine g_goto C 31 36 dX6_feed_31 (by decide) ?_
      exact g_iret C 36 dX6_feed_36
  · skip
    refine g_iconst C 11 (-1) dX6_feed_11 rfl ?_
    exact g_iret C 12 dX6_feed_12
def pX6_end (F : Nat) (p1 : Int32) (u : St) : Option (Int32 × St) :=
  bd (pX6_isIn F (Int32.toInt64 p1) 0 (u.1 17) u) (fun (r2 : Int32) (u1 : St) => if r2 = 0 then some ((-1), u1) else vl (u1.1 17) (fun v3 => vl (stf u1 17 p1) (fun (u4 : St) => some (v3, u4))))
set_option maxRecDepth 100000 in
set_option maxHeartbeats 4000000 in
theorem tX6_end {l : Launch} {D : va_G} {cI cZ : ClassId} {ad : Nat → Nat} {tBURNS tFLAME_BOUNDS : Nat} {tS : Option Nat} {adK adV : Nat → Nat} (F : Nat) (p1 : Int32) (u : St) : CtI l D [(cI, .int), (cZ, .boolean)] (wX ad cI cZ) (EX tBURNS tFLAME_BOUNDS tS adK adV) yX6_end wsX6_end ({ frames := 1, cells := 0, slots := 0, locals := 23 } : Room) [.ref (ad 0), .int p1] u (pX6_end F p1 u) := by
  refine ctI_of (own := RX6) (cc := cX6_end) (n := 3) (ret := (some .int)) (by decide) rfl rfl (Nat.le_of_ble_eq_true rfl) (lv := [(0, .ref (ad 0)), (1, .int p1)]) rfl (fun C => ?_)
  have iX2 : ∀ w ∈ wsX20, w ∈ wsX6_end := fun w h => List.mem_cons_of_mem _ (List.mem_append_right _ (inlX2 w h))
  have iX6 : ∀ w ∈ wsX60, w ∈ wsX6_end := fun w h => List.mem_cons_of_mem _ (List.mem_append_right _ (inlX6 w h))
  rw [pX6_end]
  refine g_iload_n C 0 1 dX6_end_0 rfl ?_
  refine g_i2l C 1 dX6_end_1 ?_
  refine g_iconst C 2 0 dX6_end_2 rfl ?_
  refine g_aload_n C 3 0 dX6_end_3 rfl ?_
  refine gfX_X6_reader C 4 iX6 (List.mem_cons_of_mem _ (List.mem_append_right _ wgL_1_23.1)) dX6_end_4 ?_
  refine gfX_X2_size C 7 iX2 (List.mem_cons_of_mem _ (List.mem_append_right _ wgL_6_7.1)) dX6_end_7 ?_
  refine g_callSi (st := []) (As := [.long (Int32.toInt64 p1), .int 0, .int (u.1 17)]) C EX_ok EX_vm 10 3 (tX6_isIn F (Int32.toInt64 p1) 0 (u.1 17) u) rfl gX6_end_X6_isIn rfl rfl rfl (by decide +kernel) ⟨Nat.le_of_ble_eq_true rfl, Nat.le_of_ble_eq_true rfl⟩ rfl (Nat.le_of_ble_eq_true rfl) dX6_end_10 (fun r2 u1 => ?_)
  refine g_if_ne C 13 18 dX6_end_13 (by decide) ?_ ?_
  · skip
    refine g_aload_n C 18 0 dX6_end_18 rfl ?_
    refine gfX_X6_reader C 19 iX6 (List.mem_cons_of_mem _ (List.mem_append_right _ wgL_1_23.1)) dX6_end_19 ?_
    refine gfX_X2_size C 22 iX2 (List.mem_cons_of_mem _ (List.mem_append_right _ wgL_6_7.1)) dX6_end_22 ?_
    refine g_istore_nV C 25 (fun v3 => [(2, .int v3), (0, .ref (ad 0)), (1, .int p1)]) dX6_end_25 (by decide) (fun _ => rfl) (fun v3 => ?_)
    refine g_aload_n C 26 1 dX6_end_26 rfl ?_
    refine gfX_X6_reader C 27 iX6 (List.mem_cons_of_mem _ (List.mem_append_right _ wgL_1_23.1)) dX6_end_27 ?_
    refine g_iload_n C 30 2 dX6_end_30 rfl ?_
    refine pfX_X2_size C 31 iX2 (List.mem_cons_of_mem _ (List.mem_append_right _ wgL_6_7.1)) dX6_end_31 (fun u4 => ?_)
    refine g_iload_n C 34 0 dX6_end_34 rfl ?_
    exact g_iret C 35 dX6_end_35
  · skip
    refine g_iconst C 16 (-1) dX6_end_16 rfl ?_
    exact g_iret C 17 dX6_end_17
def pX0_clear (F : Nat) (j : Nat) (u : St) : Option (Unit × St) :=
  vl (stf u (4 * j + 0) 0) (fun (u1 : St) => vl (stf u1 (4 * j + 1) 0) (fun (u2 : St) => vl (stf u2 (4 * j + 2) 0) (fun (u3 : St) => vl (stf u3 (4 * j + 3) 0) (fun (u4 : St) => some ((), u4)))))
set_option maxRecDepth 100000 in
set_option maxHeartbeats 4000000 in
theorem tX0_clear {l : Launch} {D : va_G} {cI cZ : ClassId} {ad : Nat → Nat} {tBURNS tFLAME_BOUNDS : Nat} {tS : Option Nat} {adK adV : Nat → Nat} (F : Nat) (j : Nat) (hj : j < 4) (u : St) : CtV l D [(cI, .int), (cZ, .boolean)] (wX ad cI cZ) (EX tBURNS tFLAME_BOUNDS tS adK adV) yX0_clear wsX0_clear ({ frames := 0, cells := 0, slots := 0, locals := 0 } : Room) [.ref (ad (1 + j))] u (pX0_clear F j u) := by
  refine ctV_of (own := RX0) (cc := cX0_clear) (n := 1) (ret := none) (by decide) rfl rfl (Nat.le_of_ble_eq_true rfl) (lv := [(0, .ref (ad (1 + j)))]) rfl (fun C => ?_)
  have iX0 : ∀ w ∈ wsX00, w ∈ wsX0_clear := fun w h => List.mem_cons_of_mem _ (List.mem_append_right _ (inlX0 w h))
  rw [pX0_clear]
  refine g_aload_n C 0 0 dX0_clear_0 rfl ?_
  refine g_iconst C 1 0 dX0_clear_1 rfl ?_
  refine pfX_X0_cases j hj C 2 iX0 (List.mem_cons_of_mem _ (List.mem_append_right _ wgL_2_23.1)) dX0_clear_2 (fun u1 => ?_)
  refine g_aload_n C 5 0 dX0_clear_5 rfl ?_
  refine g_iconst C 6 0 dX0_clear_6 rfl ?_
  refine pfX_X0_judges j hj C 7 iX0 (List.mem_cons_of_mem _ (List.mem_append_right _ wgL_3_0.1)) dX0_clear_7 (fun u2 => ?_)
  refine g_aload_n C 10 0 dX0_clear_10 rfl ?_
  refine g_iconst C 11 0 dX0_clear_11 rfl ?_
  refine pfX_X0_draughts j hj C 12 iX0 (List.mem_cons_of_mem _ (List.mem_append_right _ wgL_3_1.1)) dX0_clear_12 (fun u3 => ?_)
  refine g_aload_n C 15 0 dX0_clear_15 rfl ?_
  refine g_iconst C 16 0 dX0_clear_16 rfl ?_
  refine pfX_X0_hearings j hj C 17 iX0 (List.mem_cons_of_mem _ (List.mem_append_right _ wgL_3_2.1)) dX0_clear_17 (fun u4 => ?_)
  exact g_vret C 20 dX0_clear_20
def pX2_tokenOf (F : Nat) (p1 : Int32) (u : St) : Option (Int32 × St) :=
  jn (fun (u1 : St) => jn (fun (u2 : St) => if p1 = 59 then some (3, u2) else some (4, u2)) (fun (J28 : St → Option (Int32 × St)) => if p1 < 48 then (J28 u1) else if 57 < p1 then (J28 u1) else some (2, u1))) (fun (J14 : St → Option (Int32 × St)) => if p1 < 97 then (J14 u) else if 122 < p1 then (J14 u) else some (1, u))
set_option maxRecDepth 100000 in
set_option maxHeartbeats 4000000 in
theorem tX2_tokenOf {l : Launch} {D : va_G} {cI cZ : ClassId} {ad : Nat → Nat} {tBURNS tFLAME_BOUNDS : Nat} {tS : Option Nat} {adK adV : Nat → Nat} (F : Nat) (p1 : Int32) (u : St) : CtI l D [(cI, .int), (cZ, .boolean)] (wX ad cI cZ) (EX tBURNS tFLAME_BOUNDS tS adK adV) yX2_tokenOf wsX2_tokenOf ({ frames := 0, cells := 0, slots := 0, locals := 0 } : Room) [.int p1] u (pX2_tokenOf F p1 u) := by
  refine ctI_of (own := RX2) (cc := cX2_tokenOf) (n := 1) (ret := (some .int)) (by decide) rfl rfl (Nat.le_of_ble_eq_true rfl) (lv := [(0, .int p1)]) rfl (fun C => ?_)
  rw [pX2_tokenOf]
  refine g_iload_n C 0 0 dX2_tokenOf_0 rfl ?_
  refine g_bipush C 1 97 dX2_tokenOf_1 rfl ?_
  refine g_jn0 14 ([(0, .int p1)]) ([]) (fun u1 => ?_) (fun J14 hJ14 => ?_)
  · skip
    refine g_iload_n C 14 0 dX2_tokenOf_14 rfl ?_
    refine g_bipush C 15 48 dX2_tokenOf_15 rfl ?_
    refine g_jn0 28 ([(0, .int p1)]) ([]) (fun u2 => ?_) (fun J28 hJ28 => ?_)
    · skip
      refine g_iload_n C 28 0 dX2_tokenOf_28 rfl ?_
      refine g_bipush C 29 59 dX2_tokenOf_29 rfl ?_
      refine g_icmp_ne C 31 38 dX2_tokenOf_31 (by decide) ?_ ?_
      · skip
        refine g_iconst C 38 4 dX2_tokenOf_38 rfl ?_
        exact g_iret C 39 dX2_tokenOf_39
      · skip
        refine g_iconst C 34 3 dX2_tokenOf_34 rfl ?_
        refine g_goto C 35 39 dX2_tokenOf_35 (by decide) ?_
        exact g_iret C 39 dX2_tokenOf_39
    · skip
      refine g_icmp_lt C 17 28 dX2_tokenOf_17 (by decide) ?_ ?_
      · skip
        exact g_sub _ [0] rfl (hJ28 u1)
      · skip
        refine g_iload_n C 20 0 dX2_tokenOf_20 rfl ?_
        refine g_bipush C 21 57 dX2_tokenOf_21 rfl ?_
        refine g_icmp_gt C 23 28 dX2_tokenOf_23 (by decide) ?_ ?_
        · skip
          exact g_sub _ [0] rfl (hJ28 u1)
        · skip
          refine g_iconst C 26 2 dX2_tokenOf_26 rfl ?_
          exact g_iret C 27 dX2_tokenOf_27
  · skip
    refine g_icmp_lt C 3 14 dX2_tokenOf_3 (by decide) ?_ ?_
    · skip
      exact g_sub _ [0] rfl (hJ14 u)
    · skip
      refine g_iload_n C 6 0 dX2_tokenOf_6 rfl ?_
      refine g_bipush C 7 122 dX2_tokenOf_7 rfl ?_
      refine g_icmp_gt C 9 14 dX2_tokenOf_9 (by decide) ?_ ?_
      · skip
        exact g_sub _ [0] rfl (hJ14 u)
      · skip
        refine g_iconst C 12 1 dX2_tokenOf_12 rfl ?_
        exact g_iret C 13 dX2_tokenOf_13
def pX2_fails (F : Nat) (p1 : Int32) (u : St) : Option (Int32 × St) :=
  vl (stf u 18 p1) (fun (u1 : St) => some (0, u1))
set_option maxRecDepth 100000 in
set_option maxHeartbeats 4000000 in
theorem tX2_fails {l : Launch} {D : va_G} {cI cZ : ClassId} {ad : Nat → Nat} {tBURNS tFLAME_BOUNDS : Nat} {tS : Option Nat} {adK adV : Nat → Nat} (F : Nat) (p1 : Int32) (u : St) : CtI l D [(cI, .int), (cZ, .boolean)] (wX ad cI cZ) (EX tBURNS tFLAME_BOUNDS tS adK adV) yX2_fails wsX2_fails ({ frames := 0, cells := 0, slots := 0, locals := 0 } : Room) [.ref (ad 5), .int p1] u (pX2_fails F p1 u) := by
  refine ctI_of (own := RX2) (cc := cX2_fails) (n := 2) (ret := (some .boolean)) (by decide) rfl rfl (Nat.le_of_ble_eq_true rfl) (lv := [(0, .ref (ad 5)), (1, .int p1)]) rfl (fun C => ?_)
  have iX2 : ∀ w ∈ wsX20, w ∈ wsX2_fails := fun w h => List.mem_cons_of_mem _ (List.mem_append_right _ (inlX2 w h))
  rw [pX2_fails]
  refine g_aload_n C 0 0 dX2_fails_0 rfl ?_
  refine g_iload_n C 1 1 dX2_fails_1 rfl ?_
  refine pfX_X2_wrong C 2 iX2 (List.mem_cons_of_mem _ (List.mem_append_right _ wgL_3_23.1)) dX2_fails_2 (fun u1 => ?_)
  refine g_iconst C 5 0 dX2_fails_5 rfl ?_
  exact g_nret C 6 rfl dX2_fails_6
def bX2_figuresRead_7 (F : Nat)  (self5 : Int32 → Int32 → St → Option (Int32 × St)) (x2 : Int32) (x3 : Int32) (u4 : St) : Option (Int32 × St) :=
  if (u4.1 22) ≤ x3 then some (x2, u4) else gd (inb x3 160) (vl (((10 * x2) + (u4.2 54 (Int32.toNatClampNeg x3))) - 48) (fun v6 => (self5 v6 (x3 + 1) u4)))
def pX2_figuresRead (F : Nat)  (u : St) : Option (Int32 × St) :=
  vl (u.1 21) (fun v1 => (lq2 (bX2_figuresRead_7 F) F 0 v1 u))
set_option maxRecDepth 100000 in
set_option maxHeartbeats 4000000 in
theorem tX2_figuresRead {l : Launch} {D : va_G} {cI cZ : ClassId} {ad : Nat → Nat} {tBURNS tFLAME_BOUNDS : Nat} {tS : Option Nat} {adK adV : Nat → Nat} (F : Nat)  (u : St) : CtI l D [(cI, .int), (cZ, .boolean)] (wX ad cI cZ) (EX tBURNS tFLAME_BOUNDS tS adK adV) yX2_figuresRead wsX2_figuresRead ({ frames := 0, cells := 0, slots := 0, locals := 0 } : Room) [.ref (ad 5)] u (pX2_figuresRead F u) := by
  refine ctI_of (own := RX2) (cc := cX2_figuresRead) (n := 3) (ret := (some .int)) (by decide) rfl rfl (Nat.le_of_ble_eq_true rfl) (lv := [(0, .ref (ad 5))]) rfl (fun C => ?_)
  have iX2 : ∀ w ∈ wsX20, w ∈ wsX2_figuresRead := fun w h => List.mem_cons_of_mem _ (List.mem_append_right _ (inlX2 w h))
  rw [pX2_figuresRead]
  refine g_iconst C 0 0 dX2_figuresRead_0 rfl ?_
  refine g_istore_n C 1 [(1, .int 0), (0, .ref (ad 5))] dX2_figuresRead_1 (by decide) rfl ?_
  refine g_aload_n C 2 1 dX2_figuresRead_2 rfl ?_
  refine gfX_X2_from C 3 iX2 (List.mem_cons_of_mem _ (List.mem_append_right _ wgL_4_2.1)) dX2_figuresRead_3 ?_
  refine g_istore_nV C 6 (fun v1 => [(2, .int v1), (1, .int 0), (0, .ref (ad 5))]) dX2_figuresRead_6 (by decide) (fun _ => rfl) (fun v1 => ?_)
  refine g_sub _ [2, 1, 0] rfl ?_
  refine g_lq2 (fun (x2 : Int32) (x3 : Int32) => [(0, .ref (ad 5)), (1, .int x2), (2, .int x3)]) (fun self5 hself5 x2 x3 u4 => ?_) F 0 v1 u
  rw [bX2_figuresRead_7]
  refine g_iload_n C 7 2 dX2_figuresRead_7 rfl ?_
  refine g_aload_n C 8 0 dX2_figuresRead_8 rfl ?_
  refine gfX_X2_behind C 9 iX2 (List.mem_cons_of_mem _ (List.mem_append_right _ wgL_4_3.1)) dX2_figuresRead_9 ?_
  refine g_icmp_ge C 12 36 dX2_figuresRead_12 (by decide) ?_ ?_
  · skip
    refine g_iload_n C 36 1 dX2_figuresRead_36 rfl ?_
    exact g_iret C 37 dX2_figuresRead_37
  · skip
    refine g_bipush C 15 10 dX2_figuresRead_15 rfl ?_
    refine g_iload_n C 17 1 dX2_figuresRead_17 rfl ?_
    refine g_imul C 18 dX2_figuresRead_18 ?_
    refine g_aload_n C 19 0 dX2_figuresRead_19 rfl ?_
    refine gfX_X2_tape C 20 iX2 (List.mem_cons_of_mem _ (List.mem_append_right _ wgL_3_19.1)) dX2_figuresRead_20 ?_
    refine g_iload_n C 23 2 dX2_figuresRead_23 rfl ?_
    refine g_iald C 24 (10 + 54) 0 (wX_arr 54 (by decide)) rfl dX2_figuresRead_24 ?_
    refine g_iadd C 25 dX2_figuresRead_25 ?_
    refine g_bipush C 26 48 dX2_figuresRead_26 rfl ?_
    refine g_isub C 28 dX2_figuresRead_28 ?_
    refine g_istore_nV C 29 (fun v6 => [(1, .int v6), (0, .ref (ad 5)), (2, .int x3)]) dX2_figuresRead_29 (by decide) (fun _ => rfl) (fun v6 => ?_)
    refine g_iinc C 30 2 [(2, .int (x3 + 1)), (1, .int v6), (0, .ref (ad 5))] dX2_figuresRead_30 rfl rfl (by decide) rfl ?_
    refine g_goto C 33 7 dX2_figuresRead_33 (by decide) ?_
    exact g_sub _ [2, 1, 0] rfl (hself5 v6 (x3 + 1) u4)
def jX2_readsNext_141 (F : Nat)   (u7 : St) : Option (Int32 × St) :=
  jn (fun (u8 : St) => bd (pX2_fails F 1 u8) (fun (r10 : Int32) (u9 : St) => gd (z01 r10) (some (r10, u9)))) (fun (J170 : St → Option (Int32 × St)) => if (u7.1 20) = 4 then (J170 u7) else jn (fun (u11 : St) => jn (fun (a12 : Int32) (u13 : St) => vl (stf u13 23 a12) (fun (u14 : St) => some (1, u14))) (fun (J194 : Int32 → St → Option (Int32 × St)) => if (u11.1 20) = 2 then bd (pX2_figuresRead F u11) (fun (r16 : Int32) (u15 : St) => (J194 r16 u15)) else (J194 (-4) u11))) (fun (J176 : St → Option (Int32 × St)) => if (u7.1 20) = 2 then if ((u7.1 22) - (u7.1 21)) ≤ 2 then (J176 u7) else (J170 u7) else (J176 u7)))
def bX2_readsNext_90 (F : Nat) (J141 : St → Option (Int32 × St)) (self18 : St → Option (Int32 × St))  (u17 : St) : Option (Int32 × St) :=
  if (u17.1 17) ≤ (u17.1 22) then (J141 u17) else if (u17.1 20) = 3 then (J141 u17) else gd (inb (u17.1 22) 160) (bd (pX2_tokenOf F (u17.2 54 (Int32.toNatClampNeg (u17.1 22))) u17) (fun (r20 : Int32) (u19 : St) => if r20 = (u19.1 20) then vl (stf u19 22 ((u19.1 22) + 1)) (fun (u21 : St) => (self18 u21)) else (J141 u19)))
def jX2_readsNext_38 (F : Nat)   (u1 : St) : Option (Int32 × St) :=
  vl (stf u1 21 (u1.1 22)) (fun (u2 : St) => if (u2.1 21) < (u2.1 17) then gd (inb (u2.1 21) 160) (bd (pX2_tokenOf F (u2.2 54 (Int32.toNatClampNeg (u2.1 21))) u2) (fun (r4 : Int32) (u3 : St) => vl (stf u3 20 r4) (fun (u5 : St) => vl (stf u5 22 ((u5.1 22) + 1)) (fun (u6 : St) => jn (jX2_readsNext_141 F) (fun (J141 : St → Option (Int32 × St)) => (lp0 (bX2_readsNext_90 F J141) F u6)))))) else vl (stf u2 20 0) (fun (u22 : St) => some (1, u22)))
def bX2_readsNext_0 (F : Nat) (J38 : St → Option (Int32 × St)) (self24 : St → Option (Int32 × St))  (u23 : St) : Option (Int32 × St) :=
  if (u23.1 17) ≤ (u23.1 22) then (J38 u23) else gd (inb (u23.1 22) 160) (if (u23.2 54 (Int32.toNatClampNeg (u23.1 22))) = 32 then vl (stf u23 22 ((u23.1 22) + 1)) (fun (u25 : St) => (self24 u25)) else (J38 u23))
def pX2_readsNext (F : Nat)  (u : St) : Option (Int32 × St) :=
  jn (jX2_readsNext_38 F) (fun (J38 : St → Option (Int32 × St)) => (lp0 (bX2_readsNext_0 F J38) F u))
set_option maxRecDepth 100000 in
set_option maxHeartbeats 4000000 in
theorem tX2_readsNext {l : Launch} {D : va_G} {cI cZ : ClassId} {ad : Nat → Nat} {tBURNS tFLAME_BOUNDS : Nat} {tS : Option Nat} {adK adV : Nat → Nat} (F : Nat)  (u : St) : CtI l D [(cI, .int), (cZ, .boolean)] (wX ad cI cZ) (EX tBURNS tFLAME_BOUNDS tS adK adV) yX2_readsNext wsX2_readsNext ({ frames := 1, cells := 0, slots := 0, locals := 22 } : Room) [.ref (ad 5)] u (pX2_readsNext F u) := by
  refine ctI_of (own := RX2) (cc := cX2_readsNext) (n := 1) (ret := (some .boolean)) (by decide) rfl rfl (Nat.le_of_ble_eq_true rfl) (lv := [(0, .ref (ad 5))]) rfl (fun C => ?_)
  have iX2 : ∀ w ∈ wsX20, w ∈ wsX2_readsNext := fun w h => List.mem_cons_of_mem _ (List.mem_append_right _ (inlX2 w h))
  rw [pX2_readsNext]
  refine g_jn0 38 ([(0, .ref (ad 5))]) ([]) (fun u1 => ?_) (fun J38 hJ38 => ?_)
  · skip
    rw [jX2_readsNext_38]
    refine g_aload_n C 38 0 dX2_readsNext_38 rfl ?_
    refine g_aload_n C 39 0 dX2_readsNext_39 rfl ?_
    refine gfX_X2_behind C 40 iX2 (List.mem_cons_of_mem _ (List.mem_append_right _ wgL_4_3.1)) dX2_readsNext_40 ?_
    refine pfX_X2_from C 43 iX2 (List.mem_cons_of_mem _ (List.mem_append_right _ wgL_4_2.1)) dX2_readsNext_43 (fun u2 => ?_)
    refine g_aload_n C 46 0 dX2_readsNext_46 rfl ?_
    refine gfX_X2_from C 47 iX2 (List.mem_cons_of_mem _ (List.mem_append_right _ wgL_4_2.1)) dX2_readsNext_47 ?_
    refine g_aload_n C 50 0 dX2_readsNext_50 rfl ?_
    refine gfX_X2_size C 51 iX2 (List.mem_cons_of_mem _ (List.mem_append_right _ wgL_3_22.1)) dX2_readsNext_51 ?_
    refine g_icmp_lt C 54 64 dX2_readsNext_54 (by decide) ?_ ?_
    · skip
      refine g_aload_n C 64 0 dX2_readsNext_64 rfl ?_
      refine g_aload_n C 65 0 dX2_readsNext_65 rfl ?_
      refine gfX_X2_tape C 66 iX2 (List.mem_cons_of_mem _ (List.mem_append_right _ wgL_3_19.1)) dX2_readsNext_66 ?_
      refine g_aload_n C 69 0 dX2_readsNext_69 rfl ?_
      refine gfX_X2_from C 70 iX2 (List.mem_cons_of_mem _ (List.mem_append_right _ wgL_4_2.1)) dX2_readsNext_70 ?_
      refine g_iald C 73 (10 + 54) 0 (wX_arr 54 (by decide)) rfl dX2_readsNext_73 ?_
      refine g_callSi (st := [.ref (ad 5)]) (As := [.int (u2.2 54 (Int32.toNatClampNeg (u2.1 21)))]) C EX_ok EX_vm 74 1 (tX2_tokenOf F (u2.2 54 (Int32.toNatClampNeg (u2.1 21))) u2) rfl gX2_readsNext_X2_tokenOf rfl rfl rfl (by decide +kernel) ⟨Nat.le_of_ble_eq_true rfl, Nat.le_of_ble_eq_true rfl⟩ rfl (Nat.le_of_ble_eq_true rfl) dX2_readsNext_74 (fun r4 u3 => ?_)
      refine pfX_X2_token C 77 iX2 (List.mem_cons_of_mem _ (List.mem_append_right _ wgL_4_1.1)) dX2_readsNext_77 (fun u5 => ?_)
      refine g_aload_n C 80 0 dX2_readsNext_80 rfl ?_
      refine g_dup C 81 dX2_readsNext_81 rfl ?_
      refine gfX_X2_behind C 82 iX2 (List.mem_cons_of_mem _ (List.mem_append_right _ wgL_4_3.1)) dX2_readsNext_82 ?_
      refine g_iconst C 85 1 dX2_readsNext_85 rfl ?_
      refine g_iadd C 86 dX2_readsNext_86 ?_
      refine pfX_X2_behind C 87 iX2 (List.mem_cons_of_mem _ (List.mem_append_right _ wgL_4_3.1)) dX2_readsNext_87 (fun u6 => ?_)
      refine g_jn0 141 ([(0, .ref (ad 5))]) ([]) (fun u7 => ?_) (fun J141 hJ141 => ?_)
      · skip
        rw [jX2_readsNext_141]
        refine g_aload_n C 141 0 dX2_readsNext_141 rfl ?_
        refine gfX_X2_token C 142 iX2 (List.mem_cons_of_mem _ (List.mem_append_right _ wgL_4_1.1)) dX2_readsNext_142 ?_
        refine g_iconst C 145 4 dX2_readsNext_145 rfl ?_
        refine g_jn0 170 ([(0, .ref (ad 5))]) ([]) (fun u8 => ?_) (fun J170 hJ170 => ?_)
        · skip
          refine g_aload_n C 170 0 dX2_readsNext_170 rfl ?_
          refine g_iconst C 171 1 dX2_readsNext_171 rfl ?_
          refine g_callVi (st := []) (As := [.int 1]) C EX_ok EX_vm 172 5 1 (tX2_fails F 1 u8) rfl gX2_readsNext_X2_fails rfl rfl rfl (by decide +kernel) ⟨Nat.le_of_ble_eq_true rfl, Nat.le_of_ble_eq_true rfl⟩ rfl rfl rfl (Nat.le_of_ble_eq_true rfl) dX2_readsNext_172 (fun r10 u9 => ?_)
          exact g_zret C 175 dX2_readsNext_175
        · skip
          refine g_icmp_eq C 146 170 dX2_readsNext_146 (by decide) ?_ ?_
          · skip
            exact g_sub _ [0] rfl (hJ170 u7)
          · skip
            refine g_aload_n C 149 0 dX2_readsNext_149 rfl ?_
            refine gfX_X2_token C 150 iX2 (List.mem_cons_of_mem _ (List.mem_append_right _ wgL_4_1.1)) dX2_readsNext_150 ?_
            refine g_iconst C 153 2 dX2_readsNext_153 rfl ?_
            refine g_jn0 176 ([(0, .ref (ad 5))]) ([]) (fun u11 => ?_) (fun J176 hJ176 => ?_)
            · skip
              refine g_aload_n C 176 0 dX2_readsNext_176 rfl ?_
              refine g_aload_n C 177 0 dX2_readsNext_177 rfl ?_
              refine gfX_X2_token C 178 iX2 (List.mem_cons_of_mem _ (List.mem_append_right _ wgL_4_1.1)) dX2_readsNext_178 ?_
              refine g_iconst C 181 2 dX2_readsNext_181 rfl ?_
              refine g_jn1 194 (fun (a12 : Int32) => []) (fun (a12 : Int32) => [.int a12, .ref (ad 5)]) (fun a12 u13 => ?_) (fun J194 hJ194 => ?_)
              · skip
                refine pfX_X2_number C 194 iX2 (List.mem_cons_of_mem _ (List.mem_append_right _ wgL_4_4.1)) dX2_readsNext_194 (fun u14 => ?_)
                refine g_iconst C 197 1 dX2_readsNext_197 rfl ?_
                exact g_nret C 198 rfl dX2_readsNext_198
              · skip
                refine g_icmp_ne C 182 192 dX2_readsNext_182 (by decide) ?_ ?_
                · skip
                  refine g_bipush C 192 (-4) dX2_readsNext_192 rfl ?_
                  exact g_sub _ [] rfl (hJ194 (-4) u11)
                · skip
                  refine g_aload_n C 185 0 dX2_readsNext_185 rfl ?_
                  refine g_callVi (st := [.ref (ad 5)]) (As := []) C EX_ok EX_vm 186 5 0 (tX2_figuresRead F u11) rfl gX2_readsNext_X2_figuresRead rfl rfl rfl (by decide +kernel) ⟨Nat.le_of_ble_eq_true rfl, Nat.le_of_ble_eq_true rfl⟩ rfl rfl rfl (Nat.le_of_ble_eq_true rfl) dX2_readsNext_186 (fun r16 u15 => ?_)
                  refine g_goto C 189 194 dX2_readsNext_189 (by decide) ?_
                  exact g_sub _ [] rfl (hJ194 r16 u15)
            · skip
              refine g_icmp_ne C 154 176 dX2_readsNext_154 (by decide) ?_ ?_
              · skip
                exact g_sub _ [0] rfl (hJ176 u7)
              · skip
                refine g_aload_n C 157 0 dX2_readsNext_157 rfl ?_
                refine gfX_X2_behind C 158 iX2 (List.mem_cons_of_mem _ (List.mem_append_right _ wgL_4_3.1)) dX2_readsNext_158 ?_
                refine g_aload_n C 161 0 dX2_readsNext_161 rfl ?_
                refine gfX_X2_from C 162 iX2 (List.mem_cons_of_mem _ (List.mem_append_right _ wgL_4_2.1)) dX2_readsNext_162 ?_
                refine g_isub C 165 dX2_readsNext_165 ?_
                refine g_iconst C 166 2 dX2_readsNext_166 rfl ?_
                refine g_icmp_le C 167 176 dX2_readsNext_167 (by decide) ?_ ?_
                · skip
                  exact g_sub _ [0] rfl (hJ176 u7)
                · skip
                  exact g_sub _ [0] rfl (hJ170 u7)
      · skip
        refine g_sub _ [0] rfl ?_
        refine g_lp0 (fun self18 hself18 u17 => ?_) F u6
        rw [bX2_readsNext_90]
        refine g_aload_n C 90 0 dX2_readsNext_90 rfl ?_
        refine gfX_X2_behind C 91 iX2 (List.mem_cons_of_mem _ (List.mem_append_right _ wgL_4_3.1)) dX2_readsNext_91 ?_
        refine g_aload_n C 94 0 dX2_readsNext_94 rfl ?_
        refine gfX_X2_size C 95 iX2 (List.mem_cons_of_mem _ (List.mem_append_right _ wgL_3_22.1)) dX2_readsNext_95 ?_
        refine g_icmp_ge C 98 141 dX2_readsNext_98 (by decide) ?_ ?_
        · skip
          exact g_sub _ [0] rfl (hJ141 u17)
        · skip
          refine g_aload_n C 101 0 dX2_readsNext_101 rfl ?_
          refine gfX_X2_token C 102 iX2 (List.mem_cons_of_mem _ (List.mem_append_right _ wgL_4_1.1)) dX2_readsNext_102 ?_
          refine g_iconst C 105 3 dX2_readsNext_105 rfl ?_
          refine g_icmp_eq C 106 141 dX2_readsNext_106 (by decide) ?_ ?_
          · skip
            exact g_sub _ [0] rfl (hJ141 u17)
          · skip
            refine g_aload_n C 109 0 dX2_readsNext_109 rfl ?_
            refine gfX_X2_tape C 110 iX2 (List.mem_cons_of_mem _ (List.mem_append_right _ wgL_3_19.1)) dX2_readsNext_110 ?_
            refine g_aload_n C 113 0 dX2_readsNext_113 rfl ?_
            refine gfX_X2_behind C 114 iX2 (List.mem_cons_of_mem _ (List.mem_append_right _ wgL_4_3.1)) dX2_readsNext_114 ?_
            refine g_iald C 117 (10 + 54) 0 (wX_arr 54 (by decide)) rfl dX2_readsNext_117 ?_
            refine g_callSi (st := []) (As := [.int (u17.2 54 (Int32.toNatClampNeg (u17.1 22)))]) C EX_ok EX_vm 118 1 (tX2_tokenOf F (u17.2 54 (Int32.toNatClampNeg (u17.1 22))) u17) rfl gX2_readsNext_X2_tokenOf rfl rfl rfl (by decide +kernel) ⟨Nat.le_of_ble_eq_true rfl, Nat.le_of_ble_eq_true rfl⟩ rfl (Nat.le_of_ble_eq_true rfl) dX2_readsNext_118 (fun r20 u19 => ?_)
            refine g_aload_n C 121 0 dX2_readsNext_121 rfl ?_
            refine gfX_X2_token C 122 iX2 (List.mem_cons_of_mem _ (List.mem_append_right _ wgL_4_1.1)) dX2_readsNext_122 ?_
            refine g_icmp_ne C 125 141 dX2_readsNext_125 (by decide) ?_ ?_
            · skip
              exact g_sub _ [0] rfl (hJ141 u19)
            · skip
              refine g_aload_n C 128 0 dX2_readsNext_128 rfl ?_
              refine g_dup C 129 dX2_readsNext_129 rfl ?_
              refine gfX_X2_behind C 130 iX2 (List.mem_cons_of_mem _ (List.mem_append_right _ wgL_4_3.1)) dX2_readsNext_130 ?_
              refine g_iconst C 133 1 dX2_readsNext_133 rfl ?_
              refine g_iadd C 134 dX2_readsNext_134 ?_
              refine pfX_X2_behind C 135 iX2 (List.mem_cons_of_mem _ (List.mem_append_right _ wgL_4_3.1)) dX2_readsNext_135 (fun u21 => ?_)
              refine g_goto C 138 90 dX2_readsNext_138 (by decide) ?_
              exact g_sub _ [0] rfl (hself18 u21)
    · skip
      refine g_aload_n C 57 0 dX2_readsNext_57 rfl ?_
      refine g_iconst C 58 0 dX2_readsNext_58 rfl ?_
      refine pfX_X2_token C 59 iX2 (List.mem_cons_of_mem _ (List.mem_append_right _ wgL_4_1.1)) dX2_readsNext_59 (fun u22 => ?_)
      refine g_iconst C 62 1 dX2_readsNext_62 rfl ?_
      exact g_nret C 63 rfl dX2_readsNext_63
  · skip
    refine g_sub _ [0] rfl ?_
    refine g_lp0 (fun self24 hself24 u23 => ?_) F u
    rw [bX2_readsNext_0]
    refine g_aload_n C 0 0 dX2_readsNext_0 rfl ?_
    refine gfX_X2_behind C 1 iX2 (List.mem_cons_of_mem _ (List.mem_append_right _ wgL_4_3.1)) dX2_readsNext_1 ?_
    refine g_aload_n C 4 0 dX2_readsNext_4 rfl ?_
    refine gfX_X2_size C 5 iX2 (List.mem_cons_of_mem _ (List.mem_append_right _ wgL_3_22.1)) dX2_readsNext_5 ?_
    refine g_icmp_ge C 8 38 dX2_readsNext_8 (by decide) ?_ ?_
    · skip
      exact g_sub _ [0] rfl (hJ38 u23)
    · skip
      refine g_aload_n C 11 0 dX2_readsNext_11 rfl ?_
      refine gfX_X2_tape C 12 iX2 (List.mem_cons_of_mem _ (List.mem_append_right _ wgL_3_19.1)) dX2_readsNext_12 ?_
      refine g_aload_n C 15 0 dX2_readsNext_15 rfl ?_
      refine gfX_X2_behind C 16 iX2 (List.mem_cons_of_mem _ (List.mem_append_right _ wgL_4_3.1)) dX2_readsNext_16 ?_
      refine g_iald C 19 (10 + 54) 0 (wX_arr 54 (by decide)) rfl dX2_readsNext_19 ?_
      refine g_bipush C 20 32 dX2_readsNext_20 rfl ?_
      refine g_icmp_ne C 22 38 dX2_readsNext_22 (by decide) ?_ ?_
      · skip
        exact g_sub _ [0] rfl (hJ38 u23)
      · skip
        refine g_aload_n C 25 0 dX2_readsNext_25 rfl ?_
        refine g_dup C 26 dX2_readsNext_26 rfl ?_
        refine gfX_X2_behind C 27 iX2 (List.mem_cons_of_mem _ (List.mem_append_right _ wgL_4_3.1)) dX2_readsNext_27 ?_
        refine g_iconst C 30 1 dX2_readsNext_30 rfl ?_
        refine g_iadd C 31 dX2_readsNext_31 ?_
        refine pfX_X2_behind C 32 iX2 (List.mem_cons_of_mem _ (List.mem_append_right _ wgL_4_3.1)) dX2_readsNext_32 (fun u25 => ?_)
        refine g_goto C 35 0 dX2_readsNext_35 (by decide) ?_
        exact g_sub _ [0] rfl (hself24 u25)
def pX2_begins (F : Nat)  (u : St) : Option (Int32 × St) :=
  bd (pX0_clear F 3 u) (fun (_ : Unit) (u1 : St) => gd (z01 0) (vl (stf u1 19 0) (fun (u2 : St) => vl (stf u2 18 0) (fun (u3 : St) => vl (stf u3 22 0) (fun (u4 : St) => bd (pX2_readsNext F u4) (fun (r6 : Int32) (u5 : St) => gd (z01 r6) (some (r6, u5))))))))
set_option maxRecDepth 100000 in
set_option maxHeartbeats 4000000 in
theorem tX2_begins {l : Launch} {D : va_G} {cI cZ : ClassId} {ad : Nat → Nat} {tBURNS tFLAME_BOUNDS : Nat} {tS : Option Nat} {adK adV : Nat → Nat} (F : Nat)  (u : St) : CtI l D [(cI, .int), (cZ, .boolean)] (wX ad cI cZ) (EX tBURNS tFLAME_BOUNDS tS adK adV) yX2_begins wsX2_begins ({ frames := 2, cells := 0, slots := 0, locals := 42 } : Room) [.ref (ad 5)] u (pX2_begins F u) := by
  refine ctI_of (own := RX2) (cc := cX2_begins) (n := 1) (ret := (some .boolean)) (by decide) rfl rfl (Nat.le_of_ble_eq_true rfl) (lv := [(0, .ref (ad 5))]) rfl (fun C => ?_)
  have iX2 : ∀ w ∈ wsX20, w ∈ wsX2_begins := fun w h => List.mem_cons_of_mem _ (List.mem_append_right _ (inlX2 w h))
  rw [pX2_begins]
  refine g_aload_n C 0 0 dX2_begins_0 rfl ?_
  refine gfX_X2_told C 1 iX2 (List.mem_cons_of_mem _ (List.mem_append_right _ wgL_3_21.1)) dX2_begins_1 ?_
  refine g_callVv (st := []) (As := []) C EX_ok EX_vm 4 4 0 (tX0_clear F 3 (by decide) u) rfl gX2_begins_X0_clear rfl rfl rfl (by decide +kernel) ⟨Nat.le_of_ble_eq_true rfl, Nat.le_of_ble_eq_true rfl⟩ (wX_X0 ad cI cZ _ 3 (by decide)) rfl rfl (Nat.le_of_ble_eq_true rfl) dX2_begins_4 (fun u1 => ?_)
  refine g_aload_n C 7 0 dX2_begins_7 rfl ?_
  refine g_iconst C 8 0 dX2_begins_8 rfl ?_
  refine pfX_X2_docketTold C 9 iX2 (List.mem_cons_of_mem _ (List.mem_append_right _ wgL_4_0.1)) dX2_begins_9 (fun u2 => ?_)
  refine g_aload_n C 12 0 dX2_begins_12 rfl ?_
  refine g_iconst C 13 0 dX2_begins_13 rfl ?_
  refine pfX_X2_wrong C 14 iX2 (List.mem_cons_of_mem _ (List.mem_append_right _ wgL_3_23.1)) dX2_begins_14 (fun u3 => ?_)
  refine g_aload_n C 17 0 dX2_begins_17 rfl ?_
  refine g_iconst C 18 0 dX2_begins_18 rfl ?_
  refine pfX_X2_behind C 19 iX2 (List.mem_cons_of_mem _ (List.mem_append_right _ wgL_4_3.1)) dX2_begins_19 (fun u4 => ?_)
  refine g_aload_n C 22 0 dX2_begins_22 rfl ?_
  refine g_callVi (st := []) (As := []) C EX_ok EX_vm 23 5 0 (tX2_readsNext F u4) rfl gX2_begins_X2_readsNext rfl rfl rfl (by decide +kernel) ⟨Nat.le_of_ble_eq_true rfl, Nat.le_of_ble_eq_true rfl⟩ rfl rfl rfl (Nat.le_of_ble_eq_true rfl) dX2_begins_23 (fun r6 u5 => ?_)
  exact g_zret C 26 dX2_begins_26
def pX2_isAtEnd (F : Nat)  (u : St) : Option (Int32 × St) :=
  if (u.1 20) = 0 then some (1, u) else some (0, u)
set_option maxRecDepth 100000 in
set_option maxHeartbeats 4000000 in
theorem tX2_isAtEnd {l : Launch} {D : va_G} {cI cZ : ClassId} {ad : Nat → Nat} {tBURNS tFLAME_BOUNDS : Nat} {tS : Option Nat} {adK adV : Nat → Nat} (F : Nat)  (u : St) : CtI l D [(cI, .int), (cZ, .boolean)] (wX ad cI cZ) (EX tBURNS tFLAME_BOUNDS tS adK adV) yX2_isAtEnd wsX2_isAtEnd ({ frames := 0, cells := 0, slots := 0, locals := 0 } : Room) [.ref (ad 5)] u (pX2_isAtEnd F u) := by
  refine ctI_of (own := RX2) (cc := cX2_isAtEnd) (n := 1) (ret := (some .boolean)) (by decide) rfl rfl (Nat.le_of_ble_eq_true rfl) (lv := [(0, .ref (ad 5))]) rfl (fun C => ?_)
  have iX2 : ∀ w ∈ wsX20, w ∈ wsX2_isAtEnd := fun w h => List.mem_cons_of_mem _ (List.mem_append_right _ (inlX2 w h))
  rw [pX2_isAtEnd]
  refine g_aload_n C 0 0 dX2_isAtEnd_0 rfl ?_
  refine gfX_X2_token C 1 iX2 (List.mem_cons_of_mem _ (List.mem_append_right _ wgL_4_1.1)) dX2_isAtEnd_1 ?_
  refine g_if_ne C 4 11 dX2_isAtEnd_4 (by decide) ?_ ?_
  · skip
    refine g_iconst C 11 0 dX2_isAtEnd_11 rfl ?_
    exact g_nret C 12 rfl dX2_isAtEnd_12
  · skip
    refine g_iconst C 7 1 dX2_isAtEnd_7 rfl ?_
    refine g_goto C 8 12 dX2_isAtEnd_8 (by decide) ?_
    exact g_nret C 12 rfl dX2_isAtEnd_12
def pJ0_coder_7d493 (F : Nat) (i : Nat) (u : St) : Option (Int32 × St) :=
  some (0, u)
set_option maxRecDepth 100000 in
set_option maxHeartbeats 4000000 in
theorem tJ0_coder_7d493 {l : Launch} {D : va_G} {cI cZ : ClassId} {ad : Nat → Nat} {tBURNS tFLAME_BOUNDS : Nat} {tS : Option Nat} {adK adV : Nat → Nat} (F : Nat) (i : Nat) (hi : i < 11) (u : St) : CtI l D [(cI, .int), (cZ, .boolean)] (wX ad cI cZ) (EX tBURNS tFLAME_BOUNDS tS adK adV) yJ0_coder_7d493 wsJ0_coder_7d493 ({ frames := 0, cells := 0, slots := 0, locals := 0 } : Room) [.ref (adK i)] u (pJ0_coder_7d493 F i u) := by
  refine ctI_of (own := RJ0) (cc := cJ0_coder_7d493) (n := 1) (ret := (some .byte)) (by decide) rfl rfl (Nat.le_of_ble_eq_true rfl) (lv := [(0, .ref (adK i))]) rfl (fun C => ?_)
  rw [pJ0_coder_7d493]
  refine g_gets C 0 (EX_zc C.2.2.2.2.2.2.2.2.1) (by decide +kernel) dJ0_coder_7d493_0 ?_
  refine g_if_eq (o := none) C 3 13 dJ0_coder_7d493_3 (by decide) g_none ?_
  refine g_aload_n C 6 0 dJ0_coder_7d493_6 rfl ?_
  refine g_kcod C 7 i hi (EX_k C.2.2.2.2.2.2.2.2.1) (by decide +kernel) dJ0_coder_7d493_7 ?_
  refine g_goto C 10 14 dJ0_coder_7d493_10 (by decide) ?_
  exact g_nret C 14 rfl dJ0_coder_7d493_14
def pJ0_length_8abf5 (F : Nat) (i : Nat) (u : St) : Option (Int32 × St) :=
  bd (pJ0_coder_7d493 F i u) (fun (r2 : Int32) (u1 : St) => some (((Int32.ofNat (lenS.getD i 0)) >>> (r2 &&& 31)), u1))
set_option maxRecDepth 100000 in
set_option maxHeartbeats 4000000 in
theorem tJ0_length_8abf5 {l : Launch} {D : va_G} {cI cZ : ClassId} {ad : Nat → Nat} {tBURNS tFLAME_BOUNDS : Nat} {tS : Option Nat} {adK adV : Nat → Nat} (F : Nat) (i : Nat) (hi : i < 11) (u : St) : CtI l D [(cI, .int), (cZ, .boolean)] (wX ad cI cZ) (EX tBURNS tFLAME_BOUNDS tS adK adV) yJ0_length_8abf5 wsJ0_length_8abf5 ({ frames := 1, cells := 0, slots := 0, locals := 20 } : Room) [.ref (adK i)] u (pJ0_length_8abf5 F i u) := by
  refine ctI_of (own := RJ0) (cc := cJ0_length_8abf5) (n := 1) (ret := (some .int)) (by decide) rfl rfl (Nat.le_of_ble_eq_true rfl) (lv := [(0, .ref (adK i))]) rfl (fun C => ?_)
  rw [pJ0_length_8abf5]
  refine g_aload_n C 0 0 dJ0_length_8abf5_0 rfl ?_
  refine g_kval C 1 i hi (EX_k C.2.2.2.2.2.2.2.2.1) (by decide +kernel) dJ0_length_8abf5_1 ?_
  refine g_klen C 4 i hi (EX_k C.2.2.2.2.2.2.2.2.1) dJ0_length_8abf5_4 ?_
  refine g_aload_n C 5 0 dJ0_length_8abf5_5 rfl ?_
  refine g_callKi (st := [.int (Int32.ofNat (lenS.getD i 0))]) (As := []) C EX_ok EX_vm 6 i 0 hi (EX_k C.2.2.2.2.2.2.2.2.1) (tJ0_coder_7d493 F i hi u) rfl gJ0_length_8abf5_J0_coder_7d493 rfl rfl rfl (by decide +kernel) ⟨Nat.le_of_ble_eq_true rfl, Nat.le_of_ble_eq_true rfl⟩ rfl (Nat.le_of_ble_eq_true rfl) dJ0_length_8abf5_6 (fun r2 u1 => ?_)
  refine g_ishr C 9 dJ0_length_8abf5_9 ?_
  exact g_iret C 10 dJ0_length_8abf5_10
def pJ0_isLatin1_aae02 (F : Nat) (i : Nat) (u : St) : Option (Int32 × St) :=
  some (1, u)
set_option maxRecDepth 100000 in
set_option maxHeartbeats 4000000 in
theorem tJ0_isLatin1_aae02 {l : Launch} {D : va_G} {cI cZ : ClassId} {ad : Nat → Nat} {tBURNS tFLAME_BOUNDS : Nat} {tS : Option Nat} {adK adV : Nat → Nat} (F : Nat) (i : Nat) (hi : i < 11) (u : St) : CtI l D [(cI, .int), (cZ, .boolean)] (wX ad cI cZ) (EX tBURNS tFLAME_BOUNDS tS adK adV) yJ0_isLatin1_aae02 wsJ0_isLatin1_aae02 ({ frames := 0, cells := 0, slots := 0, locals := 0 } : Room) [.ref (adK i)] u (pJ0_isLatin1_aae02 F i u) := by
  refine ctI_of (own := RJ0) (cc := cJ0_isLatin1_aae02) (n := 1) (ret := (some .boolean)) (by decide) rfl rfl (Nat.le_of_ble_eq_true rfl) (lv := [(0, .ref (adK i))]) rfl (fun C => ?_)
  rw [pJ0_isLatin1_aae02]
  refine g_gets C 0 (EX_zc C.2.2.2.2.2.2.2.2.1) (by decide +kernel) dJ0_isLatin1_aae02_0 ?_
  refine g_if_eq (o := none) C 3 17 dJ0_isLatin1_aae02_3 (by decide) g_none ?_
  refine g_aload_n C 6 0 dJ0_isLatin1_aae02_6 rfl ?_
  refine g_kcod C 7 i hi (EX_k C.2.2.2.2.2.2.2.2.1) (by decide +kernel) dJ0_isLatin1_aae02_7 ?_
  refine g_if_ne (o := none) C 10 17 dJ0_isLatin1_aae02_10 (by decide) g_none ?_
  refine g_iconst C 13 1 dJ0_isLatin1_aae02_13 rfl ?_
  refine g_goto C 14 18 dJ0_isLatin1_aae02_14 (by decide) ?_
  exact g_nret C 18 rfl dJ0_isLatin1_aae02_18
def pJ3_checkIndex_8e157 (F : Nat) (p1 : Int32) (p2 : Int32) (u : St) : Option (Int32 × St) :=
  if p1 < 0 then none else if p1 < p2 then some (p1, u) else none
set_option maxRecDepth 100000 in
set_option maxHeartbeats 4000000 in
theorem tJ3_checkIndex_8e157 {l : Launch} {D : va_G} {cI cZ : ClassId} {ad : Nat → Nat} {tBURNS tFLAME_BOUNDS : Nat} {tS : Option Nat} {adK adV : Nat → Nat} (F : Nat) (p1 : Int32) (p2 : Int32) (u : St) : CtI l D [(cI, .int), (cZ, .boolean)] (wX ad cI cZ) (EX tBURNS tFLAME_BOUNDS tS adK adV) yJ3_checkIndex_8e157 wsJ3_checkIndex_8e157 ({ frames := 0, cells := 0, slots := 0, locals := 0 } : Room) [.int p1, .int p2, va_rf tS] u (pJ3_checkIndex_8e157 F p1 p2 u) := by
  cases tS
  · skip
    refine ctI_of (own := RJ3) (cc := cJ3_checkIndex_8e157) (n := 3) (ret := (some .int)) (by decide) rfl rfl (Nat.le_of_ble_eq_true rfl) (lv := [(0, .int p1), (1, .int p2), (2, _)]) rfl (fun C => ?_)
    rw [pJ3_checkIndex_8e157]
    refine g_iload_n C 0 0 dJ3_checkIndex_8e157_0 rfl ?_
    refine g_if_lt C 1 9 dJ3_checkIndex_8e157_1 (by decide) ?_ ?_
    · skip
      exact g_none
    · skip
      refine g_iload_n C 4 0 dJ3_checkIndex_8e157_4 rfl ?_
      refine g_iload_n C 5 1 dJ3_checkIndex_8e157_5 rfl ?_
      refine g_icmp_lt C 6 16 dJ3_checkIndex_8e157_6 (by decide) ?_ ?_
      · skip
        refine g_iload_n C 16 0 dJ3_checkIndex_8e157_16 rfl ?_
        exact g_iret C 17 dJ3_checkIndex_8e157_17
      · skip
        exact g_none
  · skip
    refine ctI_of (own := RJ3) (cc := cJ3_checkIndex_8e157) (n := 3) (ret := (some .int)) (by decide) rfl rfl (Nat.le_of_ble_eq_true rfl) (lv := [(0, .int p1), (1, .int p2), (2, _)]) rfl (fun C => ?_)
    rw [pJ3_checkIndex_8e157]
    refine g_iload_n C 0 0 dJ3_checkIndex_8e157_0 rfl ?_
    refine g_if_lt C 1 9 dJ3_checkIndex_8e157_1 (by decide) ?_ ?_
    · skip
      exact g_none
    · skip
      refine g_iload_n C 4 0 dJ3_checkIndex_8e157_4 rfl ?_
      refine g_iload_n C 5 1 dJ3_checkIndex_8e157_5 rfl ?_
      refine g_icmp_lt C 6 16 dJ3_checkIndex_8e157_6 (by decide) ?_ ?_
      · skip
        refine g_iload_n C 16 0 dJ3_checkIndex_8e157_16 rfl ?_
        exact g_iret C 17 dJ3_checkIndex_8e157_17
      · skip
        exact g_none
def pJ0_checkIndex_df160 (F : Nat) (p1 : Int32) (p2 : Int32) (u : St) : Option (Unit × St) :=
  bd (pJ3_checkIndex_8e157 F p1 p2 u) (fun (r2 : Int32) (u1 : St) => some ((), u1))
set_option maxRecDepth 100000 in
set_option maxHeartbeats 4000000 in
theorem tJ0_checkIndex_df160 {l : Launch} {D : va_G} {cI cZ : ClassId} {ad : Nat → Nat} {tBURNS tFLAME_BOUNDS : Nat} {tS : Option Nat} {adK adV : Nat → Nat} (F : Nat) (p1 : Int32) (p2 : Int32) (u : St) : CtV l D [(cI, .int), (cZ, .boolean)] (wX ad cI cZ) (EX tBURNS tFLAME_BOUNDS tS adK adV) yJ0_checkIndex_df160 wsJ0_checkIndex_df160 ({ frames := 1, cells := 0, slots := 0, locals := 22 } : Room) [.int p1, .int p2] u (pJ0_checkIndex_df160 F p1 p2 u) := by
  cases tS
  · skip
    refine ctV_of (own := RJ0) (cc := cJ0_checkIndex_df160) (n := 2) (ret := none) (by decide) rfl rfl (Nat.le_of_ble_eq_true rfl) (lv := [(0, .int p1), (1, .int p2)]) rfl (fun C => ?_)
    rw [pJ0_checkIndex_df160]
    refine g_iload_n C 0 0 dJ0_checkIndex_df160_0 rfl ?_
    refine g_iload_n C 1 1 dJ0_checkIndex_df160_1 rfl ?_
    refine g_gets C 2 (EX_zs C.2.2.2.2.2.2.2.2.1) (by decide +kernel) dJ0_checkIndex_df160_2 ?_
    refine g_callSi (st := []) (As := [.int p1, .int p2, _]) C EX_ok EX_vm 5 3 (tJ3_checkIndex_8e157 F p1 p2 u) rfl gJ0_checkIndex_df160_J3_checkIndex_8e157 rfl rfl rfl (by decide +kernel) ⟨Nat.le_of_ble_eq_true rfl, Nat.le_of_ble_eq_true rfl⟩ rfl (Nat.le_of_ble_eq_true rfl) dJ0_checkIndex_df160_5 (fun r2 u1 => ?_)
    refine g_pop C 8 dJ0_checkIndex_df160_8 rfl ?_
    exact g_vret C 9 dJ0_checkIndex_df160_9
  · skip
    refine ctV_of (own := RJ0) (cc := cJ0_checkIndex_df160) (n := 2) (ret := none) (by decide) rfl rfl (Nat.le_of_ble_eq_true rfl) (lv := [(0, .int p1), (1, .int p2)]) rfl (fun C => ?_)
    rw [pJ0_checkIndex_df160]
    refine g_iload_n C 0 0 dJ0_checkIndex_df160_0 rfl ?_
    refine g_iload_n C 1 1 dJ0_checkIndex_df160_1 rfl ?_
    refine g_gets C 2 (EX_zs C.2.2.2.2.2.2.2.2.1) (by decide +kernel) dJ0_checkIndex_df160_2 ?_
    refine g_callSi (st := []) (As := [.int p1, .int p2, _]) C EX_ok EX_vm 5 3 (tJ3_checkIndex_8e157 F p1 p2 u) rfl gJ0_checkIndex_df160_J3_checkIndex_8e157 rfl rfl rfl (by decide +kernel) ⟨Nat.le_of_ble_eq_true rfl, Nat.le_of_ble_eq_true rfl⟩ rfl (Nat.le_of_ble_eq_true rfl) dJ0_checkIndex_df160_5 (fun r2 u1 => ?_)
    refine g_pop C 8 dJ0_checkIndex_df160_8 rfl ?_
    exact g_vret C 9 dJ0_checkIndex_df160_9
def pJ1_charAt_3b067 (F : Nat) (p1 : Nat) (p2 : Int32) (u : St) : Option (Int32 × St) :=
  bd (pJ0_checkIndex_df160 F p2 (Int32.ofNat (lenS.getD p1 0)) u) (fun (_ : Unit) (u1 : St) => gd (inb p2 (lenS.getD p1 0)) (gd (c16 (UInt32.toInt32 (Int32.toUInt32 (((bytS.getD p1 []).getD (Int32.toNatClampNeg p2) 0) &&& 255) % 65536))) (some ((UInt32.toInt32 (Int32.toUInt32 (((bytS.getD p1 []).getD (Int32.toNatClampNeg p2) 0) &&& 255) % 65536)), u1))))
set_option maxRecDepth 100000 in
set_option maxHeartbeats 4000000 in
theorem tJ1_charAt_3b067 {l : Launch} {D : va_G} {cI cZ : ClassId} {ad : Nat → Nat} {tBURNS tFLAME_BOUNDS : Nat} {tS : Option Nat} {adK adV : Nat → Nat} (F : Nat) (p1 : Nat) (hp1 : p1 < 11) (p2 : Int32) (u : St) : CtI l D [(cI, .int), (cZ, .boolean)] (wX ad cI cZ) (EX tBURNS tFLAME_BOUNDS tS adK adV) yJ1_charAt_3b067 wsJ1_charAt_3b067 ({ frames := 2, cells := 0, slots := 0, locals := 43 } : Room) [.ref (adV p1), .int p2] u (pJ1_charAt_3b067 F p1 p2 u) := by
  refine ctI_of (own := RJ1) (cc := cJ1_charAt_3b067) (n := 2) (ret := (some .char)) (by decide) rfl rfl (Nat.le_of_ble_eq_true rfl) (lv := [(0, .ref (adV p1)), (1, .int p2)]) rfl (fun C => ?_)
  rw [pJ1_charAt_3b067]
  refine g_iload_n C 0 1 dJ1_charAt_3b067_0 rfl ?_
  refine g_aload_n C 1 0 dJ1_charAt_3b067_1 rfl ?_
  refine g_klen C 2 p1 hp1 (EX_k C.2.2.2.2.2.2.2.2.1) dJ1_charAt_3b067_2 ?_
  refine g_callSv (st := []) (As := [.int p2, .int (Int32.ofNat (lenS.getD p1 0))]) C EX_ok EX_vm 3 2 (tJ0_checkIndex_df160 F p2 (Int32.ofNat (lenS.getD p1 0)) u) rfl gJ1_charAt_3b067_J0_checkIndex_df160 rfl rfl rfl (by decide +kernel) ⟨Nat.le_of_ble_eq_true rfl, Nat.le_of_ble_eq_true rfl⟩ rfl (Nat.le_of_ble_eq_true rfl) dJ1_charAt_3b067_3 (fun u1 => ?_)
  refine g_aload_n C 6 0 dJ1_charAt_3b067_6 rfl ?_
  refine g_iload_n C 7 1 dJ1_charAt_3b067_7 rfl ?_
  refine g_kb C 8 p1 hp1 (EX_k C.2.2.2.2.2.2.2.2.1) dJ1_charAt_3b067_8 ?_
  refine g_sipush C 9 255 dJ1_charAt_3b067_9 rfl ?_
  refine g_iand C 12 dJ1_charAt_3b067_12 ?_
  refine g_i2c C 13 dJ1_charAt_3b067_13 ?_
  exact g_cret C 14 dJ1_charAt_3b067_14
def pJ0_charAt_5068e (F : Nat) (i : Nat) (p1 : Int32) (u : St) : Option (Int32 × St) :=
  bd (pJ0_isLatin1_aae02 F i u) (fun (r2 : Int32) (u1 : St) => if r2 = 0 then none else bd (pJ1_charAt_3b067 F i p1 u1) (fun (r4 : Int32) (u3 : St) => gd (c16 r4) (some (r4, u3))))
set_option maxRecDepth 100000 in
set_option maxHeartbeats 4000000 in
theorem tJ0_charAt_5068e {l : Launch} {D : va_G} {cI cZ : ClassId} {ad : Nat → Nat} {tBURNS tFLAME_BOUNDS : Nat} {tS : Option Nat} {adK adV : Nat → Nat} (F : Nat) (i : Nat) (hi : i < 11) (p1 : Int32) (u : St) : CtI l D [(cI, .int), (cZ, .boolean)] (wX ad cI cZ) (EX tBURNS tFLAME_BOUNDS tS adK adV) yJ0_charAt_5068e wsJ0_charAt_5068e ({ frames := 3, cells := 0, slots := 0, locals := 64 } : Room) [.ref (adK i), .int p1] u (pJ0_charAt_5068e F i p1 u) := by
  refine ctI_of (own := RJ0) (cc := cJ0_charAt_5068e) (n := 2) (ret := (some .char)) (by decide) rfl rfl (Nat.le_of_ble_eq_true rfl) (lv := [(0, .ref (adK i)), (1, .int p1)]) rfl (fun C => ?_)
  rw [pJ0_charAt_5068e]
  refine g_aload_n C 0 0 dJ0_charAt_5068e_0 rfl ?_
  refine g_callKi (st := []) (As := []) C EX_ok EX_vm 1 i 0 hi (EX_k C.2.2.2.2.2.2.2.2.1) (tJ0_isLatin1_aae02 F i hi u) rfl gJ0_charAt_5068e_J0_isLatin1_aae02 rfl rfl rfl (by decide +kernel) ⟨Nat.le_of_ble_eq_true rfl, Nat.le_of_ble_eq_true rfl⟩ rfl (Nat.le_of_ble_eq_true rfl) dJ0_charAt_5068e_1 (fun r2 u1 => ?_)
  refine g_if_eq C 4 16 dJ0_charAt_5068e_4 (by decide) ?_ ?_
  · skip
    refine g_aload_n C 16 0 dJ0_charAt_5068e_16 rfl ?_
    refine g_kval C 17 i hi (EX_k C.2.2.2.2.2.2.2.2.1) (by decide +kernel) dJ0_charAt_5068e_17 ?_
    refine g_iload_n C 20 1 dJ0_charAt_5068e_20 rfl ?_
    exact g_none
  · skip
    refine g_aload_n C 7 0 dJ0_charAt_5068e_7 rfl ?_
    refine g_kval C 8 i hi (EX_k C.2.2.2.2.2.2.2.2.1) (by decide +kernel) dJ0_charAt_5068e_8 ?_
    refine g_iload_n C 11 1 dJ0_charAt_5068e_11 rfl ?_
    refine g_callSi (st := []) (As := [.ref (adV i), .int p1]) C EX_ok EX_vm 12 2 (tJ1_charAt_3b067 F i hi p1 u1) rfl gJ0_charAt_5068e_J1_charAt_3b067 rfl rfl rfl (by decide +kernel) ⟨Nat.le_of_ble_eq_true rfl, Nat.le_of_ble_eq_true rfl⟩ rfl (Nat.le_of_ble_eq_true rfl) dJ0_charAt_5068e_12 (fun r4 u3 => ?_)
    exact g_cret C 15 dJ0_charAt_5068e_15
def bX2_isNamed_28 (F : Nat) (p1 : Nat) (self5 : Int32 → St → Option (Int32 × St)) (x3 : Int32) (u4 : St) : Option (Int32 × St) :=
  bd (pJ0_length_8abf5 F p1 u4) (fun (r7 : Int32) (u6 : St) => if r7 ≤ x3 then some (1, u6) else if 160 ≤ ((u6.1 21) + x3) then some (1, u6) else gd (inb ((u6.1 21) + x3) 160) (bd (pJ0_charAt_5068e F p1 x3 u6) (fun (r9 : Int32) (u8 : St) => if (u6.2 54 (Int32.toNatClampNeg ((u6.1 21) + x3))) = r9 then (self5 (x3 + 1) u8) else some (0, u8))))
def pX2_isNamed (F : Nat) (p1 : Nat) (u : St) : Option (Int32 × St) :=
  if (u.1 20) = 1 then bd (pJ0_length_8abf5 F p1 u) (fun (r2 : Int32) (u1 : St) => if ((u.1 22) - (u.1 21)) = r2 then (lq1 (bX2_isNamed_28 F p1) F 0 u1) else some (0, u1)) else some (0, u)
set_option maxRecDepth 100000 in
set_option maxHeartbeats 4000000 in
theorem tX2_isNamed {l : Launch} {D : va_G} {cI cZ : ClassId} {ad : Nat → Nat} {tBURNS tFLAME_BOUNDS : Nat} {tS : Option Nat} {adK adV : Nat → Nat} (F : Nat) (p1 : Nat) (hp1 : p1 < 11) (u : St) : CtI l D [(cI, .int), (cZ, .boolean)] (wX ad cI cZ) (EX tBURNS tFLAME_BOUNDS tS adK adV) yX2_isNamed wsX2_isNamed ({ frames := 4, cells := 0, slots := 0, locals := 85 } : Room) [.ref (ad 5), .ref (adK p1)] u (pX2_isNamed F p1 u) := by
  refine ctI_of (own := RX2) (cc := cX2_isNamed) (n := 3) (ret := (some .boolean)) (by decide) rfl rfl (Nat.le_of_ble_eq_true rfl) (lv := [(0, .ref (ad 5)), (1, .ref (adK p1))]) rfl (fun C => ?_)
  have iX2 : ∀ w ∈ wsX20, w ∈ wsX2_isNamed := fun w h => List.mem_cons_of_mem _ (List.mem_append_right _ (inlX2 w h))
  rw [pX2_isNamed]
  refine g_aload_n C 0 0 dX2_isNamed_0 rfl ?_
  refine gfX_X2_token C 1 iX2 (List.mem_cons_of_mem _ (List.mem_append_right _ wgL_4_1.1)) dX2_isNamed_1 ?_
  refine g_iconst C 4 1 dX2_isNamed_4 rfl ?_
  refine g_icmp_ne C 5 24 dX2_isNamed_5 (by decide) ?_ ?_
  · skip
    refine g_iconst C 24 0 dX2_isNamed_24 rfl ?_
    exact g_nret C 25 rfl dX2_isNamed_25
  · skip
    refine g_aload_n C 8 0 dX2_isNamed_8 rfl ?_
    refine gfX_X2_behind C 9 iX2 (List.mem_cons_of_mem _ (List.mem_append_right _ wgL_4_3.1)) dX2_isNamed_9 ?_
    refine g_aload_n C 12 0 dX2_isNamed_12 rfl ?_
    refine gfX_X2_from C 13 iX2 (List.mem_cons_of_mem _ (List.mem_append_right _ wgL_4_2.1)) dX2_isNamed_13 ?_
    refine g_isub C 16 dX2_isNamed_16 ?_
    refine g_aload_n C 17 1 dX2_isNamed_17 rfl ?_
    refine g_callKi (st := [.int ((u.1 22) - (u.1 21))]) (As := []) C EX_ok EX_vm 18 p1 0 hp1 (EX_k C.2.2.2.2.2.2.2.2.1) (tJ0_length_8abf5 F p1 hp1 u) rfl gX2_isNamed_J0_length_8abf5 rfl rfl rfl (by decide +kernel) ⟨Nat.le_of_ble_eq_true rfl, Nat.le_of_ble_eq_true rfl⟩ rfl (Nat.le_of_ble_eq_true rfl) dX2_isNamed_18 (fun r2 u1 => ?_)
    refine g_icmp_eq C 21 26 dX2_isNamed_21 (by decide) ?_ ?_
    · skip
      refine g_iconst C 26 0 dX2_isNamed_26 rfl ?_
      refine g_istore_n C 27 [(2, .int 0), (0, .ref (ad 5)), (1, .ref (adK p1))] dX2_isNamed_27 (by decide) rfl ?_
      refine g_sub _ [1, 2, 0] rfl ?_
      refine g_lq1 (fun (x3 : Int32) => [(0, .ref (ad 5)), (1, .ref (adK p1)), (2, .int x3)]) (fun self5 hself5 x3 u4 => ?_) F 0 u1
      rw [bX2_isNamed_28]
      refine g_iload_n C 28 2 dX2_isNamed_28 rfl ?_
      refine g_aload_n C 29 1 dX2_isNamed_29 rfl ?_
      refine g_callKi (st := [.int x3]) (As := []) C EX_ok EX_vm 30 p1 0 hp1 (EX_k C.2.2.2.2.2.2.2.2.1) (tJ0_length_8abf5 F p1 hp1 u4) rfl gX2_isNamed_J0_length_8abf5 rfl rfl rfl (by decide +kernel) ⟨Nat.le_of_ble_eq_true rfl, Nat.le_of_ble_eq_true rfl⟩ rfl (Nat.le_of_ble_eq_true rfl) dX2_isNamed_30 (fun r7 u6 => ?_)
      refine g_icmp_ge C 33 75 dX2_isNamed_33 (by decide) ?_ ?_
      · skip
        refine g_iconst C 75 1 dX2_isNamed_75 rfl ?_
        exact g_nret C 76 rfl dX2_isNamed_76
      · skip
        refine g_aload_n C 36 0 dX2_isNamed_36 rfl ?_
        refine gfX_X2_from C 37 iX2 (List.mem_cons_of_mem _ (List.mem_append_right _ wgL_4_2.1)) dX2_isNamed_37 ?_
        refine g_iload_n C 40 2 dX2_isNamed_40 rfl ?_
        refine g_iadd C 41 dX2_isNamed_41 ?_
        refine g_sipush C 42 160 dX2_isNamed_42 rfl ?_
        refine g_icmp_ge C 45 75 dX2_isNamed_45 (by decide) ?_ ?_
        · skip
          refine g_iconst C 75 1 dX2_isNamed_75 rfl ?_
          exact g_nret C 76 rfl dX2_isNamed_76
        · skip
          refine g_aload_n C 48 0 dX2_isNamed_48 rfl ?_
          refine gfX_X2_tape C 49 iX2 (List.mem_cons_of_mem _ (List.mem_append_right _ wgL_3_19.1)) dX2_isNamed_49 ?_
          refine g_aload_n C 52 0 dX2_isNamed_52 rfl ?_
          refine gfX_X2_from C 53 iX2 (List.mem_cons_of_mem _ (List.mem_append_right _ wgL_4_2.1)) dX2_isNamed_53 ?_
          refine g_iload_n C 56 2 dX2_isNamed_56 rfl ?_
          refine g_iadd C 57 dX2_isNamed_57 ?_
          refine g_iald C 58 (10 + 54) 0 (wX_arr 54 (by decide)) rfl dX2_isNamed_58 ?_
          refine g_aload_n C 59 1 dX2_isNamed_59 rfl ?_
          refine g_iload_n C 60 2 dX2_isNamed_60 rfl ?_
          refine g_callKi (st := [.int (u6.2 54 (Int32.toNatClampNeg ((u6.1 21) + x3)))]) (As := [.int x3]) C EX_ok EX_vm 61 p1 1 hp1 (EX_k C.2.2.2.2.2.2.2.2.1) (tJ0_charAt_5068e F p1 hp1 x3 u6) rfl gX2_isNamed_J0_charAt_5068e rfl rfl rfl (by decide +kernel) ⟨Nat.le_of_ble_eq_true rfl, Nat.le_of_ble_eq_true rfl⟩ rfl (Nat.le_of_ble_eq_true rfl) dX2_isNamed_61 (fun r9 u8 => ?_)
          refine g_icmp_eq C 64 69 dX2_isNamed_64 (by decide) ?_ ?_
          · skip
            refine g_iinc C 69 2 [(2, .int (x3 + 1)), (0, .ref (ad 5)), (1, .ref (adK p1))] dX2_isNamed_69 rfl rfl (by decide) rfl ?_
            refine g_goto C 72 28 dX2_isNamed_72 (by decide) ?_
            exact g_sub _ [1, 2, 0] rfl (hself5 (x3 + 1) u8)
          · skip
            refine g_iconst C 67 0 dX2_isNamed_67 rfl ?_
            exact g_nret C 68 rfl dX2_isNamed_68
    · skip
      refine g_iconst C 24 0 dX2_isNamed_24 rfl ?_
      exact g_nret C 25 rfl dX2_isNamed_25
def pX2_kindNamed (F : Nat)  (u : St) : Option (Int32 × St) :=
  bd (pX2_isNamed F 1 u) (fun (r2 : Int32) (u1 : St) => if r2 = 0 then bd (pX2_isNamed F 2 u1) (fun (r4 : Int32) (u3 : St) => if r4 = 0 then bd (pX2_isNamed F 3 u3) (fun (r6 : Int32) (u5 : St) => if r6 = 0 then bd (pX2_isNamed F 4 u5) (fun (r8 : Int32) (u7 : St) => if r8 = 0 then some ((-4), u7) else some (3, u7)) else some (2, u5)) else some (1, u3)) else some (0, u1))
set_option maxRecDepth 100000 in
set_option maxHeartbeats 4000000 in
theorem tX2_kindNamed {l : Launch} {D : va_G} {cI cZ : ClassId} {ad : Nat → Nat} {tBURNS tFLAME_BOUNDS : Nat} {tS : Option Nat} {adK adV : Nat → Nat} (F : Nat)  (u : St) : CtI l D [(cI, .int), (cZ, .boolean)] (wX ad cI cZ) (EX tBURNS tFLAME_BOUNDS tS adK adV) yX2_kindNamed wsX2_kindNamed ({ frames := 5, cells := 0, slots := 0, locals := 107 } : Room) [.ref (ad 5)] u (pX2_kindNamed F u) := by
  refine ctI_of (own := RX2) (cc := cX2_kindNamed) (n := 1) (ret := (some .int)) (by decide) rfl rfl (Nat.le_of_ble_eq_true rfl) (lv := [(0, .ref (ad 5))]) rfl (fun C => ?_)
  rw [pX2_kindNamed]
  refine g_aload_n C 0 0 dX2_kindNamed_0 rfl ?_
  refine g_ldcS C 1 (EX_s1 C.2.2.2.2.2.2.2.2.1) dX2_kindNamed_1 ?_
  refine g_callVi (st := []) (As := [.ref (adK 1)]) C EX_ok EX_vm 3 5 1 (tX2_isNamed F 1 (by decide) u) rfl gX2_kindNamed_X2_isNamed rfl rfl rfl (by decide +kernel) ⟨Nat.le_of_ble_eq_true rfl, Nat.le_of_ble_eq_true rfl⟩ rfl rfl rfl (Nat.le_of_ble_eq_true rfl) dX2_kindNamed_3 (fun r2 u1 => ?_)
  refine g_if_eq C 6 11 dX2_kindNamed_6 (by decide) ?_ ?_
  · skip
    refine g_aload_n C 11 0 dX2_kindNamed_11 rfl ?_
    refine g_ldcS C 12 (EX_s2 C.2.2.2.2.2.2.2.2.1) dX2_kindNamed_12 ?_
    refine g_callVi (st := []) (As := [.ref (adK 2)]) C EX_ok EX_vm 14 5 1 (tX2_isNamed F 2 (by decide) u1) rfl gX2_kindNamed_X2_isNamed rfl rfl rfl (by decide +kernel) ⟨Nat.le_of_ble_eq_true rfl, Nat.le_of_ble_eq_true rfl⟩ rfl rfl rfl (Nat.le_of_ble_eq_true rfl) dX2_kindNamed_14 (fun r4 u3 => ?_)
    refine g_if_eq C 17 22 dX2_kindNamed_17 (by decide) ?_ ?_
    · skip
      refine g_aload_n C 22 0 dX2_kindNamed_22 rfl ?_
      refine g_ldcS C 23 (EX_s3 C.2.2.2.2.2.2.2.2.1) dX2_kindNamed_23 ?_
      refine g_callVi (st := []) (As := [.ref (adK 3)]) C EX_ok EX_vm 25 5 1 (tX2_isNamed F 3 (by decide) u3) rfl gX2_kindNamed_X2_isNamed rfl rfl rfl (by decide +kernel) ⟨Nat.le_of_ble_eq_true rfl, Nat.le_of_ble_eq_true rfl⟩ rfl rfl rfl (Nat.le_of_ble_eq_true rfl) dX2_kindNamed_25 (fun r6 u5 => ?_)
      refine g_if_eq C 28 33 dX2_kindNamed_28 (by decide) ?_ ?_
      · skip
        refine g_aload_n C 33 0 dX2_kindNamed_33 rfl ?_
        refine g_ldcS C 34 (EX_s4 C.2.2.2.2.2.2.2.2.1) dX2_kindNamed_34 ?_
        refine g_callVi (st := []) (As := [.ref (adK 4)]) C EX_ok EX_vm 36 5 1 (tX2_isNamed F 4 (by decide) u5) rfl gX2_kindNamed_X2_isNamed rfl rfl rfl (by decide +kernel) ⟨Nat.le_of_ble_eq_true rfl, Nat.le_of_ble_eq_true rfl⟩ rfl rfl rfl (Nat.le_of_ble_eq_true rfl) dX2_kindNamed_36 (fun r8 u7 => ?_)
        refine g_if_eq C 39 46 dX2_kindNamed_39 (by decide) ?_ ?_
        · skip
          refine g_bipush C 46 (-4) dX2_kindNamed_46 rfl ?_
          exact g_iret C 48 dX2_kindNamed_48
        · skip
          refine g_iconst C 42 3 dX2_kindNamed_42 rfl ?_
          refine g_goto C 43 48 dX2_kindNamed_43 (by decide) ?_
          exact g_iret C 48 dX2_kindNamed_48
      · skip
        refine g_iconst C 31 2 dX2_kindNamed_31 rfl ?_
        exact g_iret C 32 dX2_kindNamed_32
    · skip
      refine g_iconst C 20 1 dX2_kindNamed_20 rfl ?_
      exact g_iret C 21 dX2_kindNamed_21
  · skip
    refine g_iconst C 9 0 dX2_kindNamed_9 rfl ?_
    exact g_iret C 10 dX2_kindNamed_10
def pX2_isNumberIn (F : Nat) (p1 : Int32) (p2 : Int32) (u : St) : Option (Int32 × St) :=
  bd (pX6_isIn F (Int32.toInt64 (u.1 23)) p1 p2 u) (fun (r2 : Int32) (u1 : St) => if r2 = 0 then bd (pX2_fails F 3 u1) (fun (r4 : Int32) (u3 : St) => if r4 = 0 then some (0, u3) else some (1, u3)) else some (1, u1))
set_option maxRecDepth 100000 in
set_option maxHeartbeats 4000000 in
theorem tX2_isNumberIn {l : Launch} {D : va_G} {cI cZ : ClassId} {ad : Nat → Nat} {tBURNS tFLAME_BOUNDS : Nat} {tS : Option Nat} {adK adV : Nat → Nat} (F : Nat) (p1 : Int32) (p2 : Int32) (u : St) : CtI l D [(cI, .int), (cZ, .boolean)] (wX ad cI cZ) (EX tBURNS tFLAME_BOUNDS tS adK adV) yX2_isNumberIn wsX2_isNumberIn ({ frames := 1, cells := 0, slots := 0, locals := 23 } : Room) [.ref (ad 5), .int p1, .int p2] u (pX2_isNumberIn F p1 p2 u) := by
  refine ctI_of (own := RX2) (cc := cX2_isNumberIn) (n := 3) (ret := (some .boolean)) (by decide) rfl rfl (Nat.le_of_ble_eq_true rfl) (lv := [(0, .ref (ad 5)), (1, .int p1), (2, .int p2)]) rfl (fun C => ?_)
  have iX2 : ∀ w ∈ wsX20, w ∈ wsX2_isNumberIn := fun w h => List.mem_cons_of_mem _ (List.mem_append_right _ (inlX2 w h))
  rw [pX2_isNumberIn]
  refine g_aload_n C 0 0 dX2_isNumberIn_0 rfl ?_
  refine gfX_X2_number C 1 iX2 (List.mem_cons_of_mem _ (List.mem_append_right _ wgL_4_4.1)) dX2_isNumberIn_1 ?_
  refine g_i2l C 4 dX2_isNumberIn_4 ?_
  refine g_iload_n C 5 1 dX2_isNumberIn_5 rfl ?_
  refine g_iload_n C 6 2 dX2_isNumberIn_6 rfl ?_
  refine g_callNi (st := []) (As := [.long (Int32.toInt64 (u.1 23)), .int p1, .int p2]) C EX_ok EX_vm 7 3 (tX6_isIn F (Int32.toInt64 (u.1 23)) p1 p2 u) rfl ggX2_isNumberIn_X6_isIn rfl rfl rfl (EX_n0 C.2.2.2.2.2.2.2.2.1) (by decide +kernel) (by decide +kernel) (by decide +kernel) ⟨Nat.le_of_ble_eq_true rfl, Nat.le_of_ble_eq_true rfl⟩ rfl (Nat.le_of_ble_eq_true rfl) dX2_isNumberIn_7 (fun r2 u1 => ?_)
  refine g_if_ne C 10 21 dX2_isNumberIn_10 (by decide) ?_ ?_
  · skip
    refine g_iconst C 21 1 dX2_isNumberIn_21 rfl ?_
    refine g_goto C 22 26 dX2_isNumberIn_22 (by decide) ?_
    exact g_nret C 26 rfl dX2_isNumberIn_26
  · skip
    refine g_aload_n C 13 0 dX2_isNumberIn_13 rfl ?_
    refine g_iconst C 14 3 dX2_isNumberIn_14 rfl ?_
    refine g_callVi (st := []) (As := [.int 3]) C EX_ok EX_vm 15 5 1 (tX2_fails F 3 u1) rfl gX2_isNumberIn_X2_fails rfl rfl rfl (by decide +kernel) ⟨Nat.le_of_ble_eq_true rfl, Nat.le_of_ble_eq_true rfl⟩ rfl rfl rfl (Nat.le_of_ble_eq_true rfl) dX2_isNumberIn_15 (fun r4 u3 => ?_)
    refine g_if_eq C 18 25 dX2_isNumberIn_18 (by decide) ?_ ?_
    · skip
      refine g_iconst C 25 0 dX2_isNumberIn_25 rfl ?_
      exact g_nret C 26 rfl dX2_isNumberIn_26
    · skip
      refine g_iconst C 21 1 dX2_isNumberIn_21 rfl ?_
      refine g_goto C 22 26 dX2_isNumberIn_22 (by decide) ?_
      exact g_nret C 26 rfl dX2_isNumberIn_26
def pX2_readsNumber (F : Nat) (p1 : Int32) (p2 : Int32) (u : St) : Option (Int32 × St) :=
  bd (pX2_readsNext F u) (fun (r2 : Int32) (u1 : St) => if r2 = 0 then some (0, u1) else if (u1.1 20) = 2 then bd (pX2_isNumberIn F p1 p2 u1) (fun (r6 : Int32) (u5 : St) => gd (z01 r6) (some (r6, u5))) else bd (pX2_fails F 2 u1) (fun (r4 : Int32) (u3 : St) => gd (z01 r4) (some (r4, u3))))
set_option maxRecDepth 100000 in
set_option maxHeartbeats 4000000 in
theorem tX2_readsNumber {l : Launch} {D : va_G} {cI cZ : ClassId} {ad : Nat → Nat} {tBURNS tFLAME_BOUNDS : Nat} {tS : Option Nat} {adK adV : Nat → Nat} (F : Nat) (p1 : Int32) (p2 : Int32) (u : St) : CtI l D [(cI, .int), (cZ, .boolean)] (wX ad cI cZ) (EX tBURNS tFLAME_BOUNDS tS adK adV) yX2_readsNumber wsX2_readsNumber ({ frames := 2, cells := 0, slots := 0, locals := 45 } : Room) [.ref (ad 5), .int p1, .int p2] u (pX2_readsNumber F p1 p2 u) := by
  refine ctI_of (own := RX2) (cc := cX2_readsNumber) (n := 3) (ret := (some .boolean)) (by decide) rfl rfl (Nat.le_of_ble_eq_true rfl) (lv := [(0, .ref (ad 5)), (1, .int p1), (2, .int p2)]) rfl (fun C => ?_)
  have iX2 : ∀ w ∈ wsX20, w ∈ wsX2_readsNumber := fun w h => List.mem_cons_of_mem _ (List.mem_append_right _ (inlX2 w h))
  rw [pX2_readsNumber]
  refine g_aload_n C 0 0 dX2_readsNumber_0 rfl ?_
  refine g_callVi (st := []) (As := []) C EX_ok EX_vm 1 5 0 (tX2_readsNext F u) rfl gX2_readsNumber_X2_readsNext rfl rfl rfl (by decide +kernel) ⟨Nat.le_of_ble_eq_true rfl, Nat.le_of_ble_eq_true rfl⟩ rfl rfl rfl (Nat.le_of_ble_eq_true rfl) dX2_readsNumber_1 (fun r2 u1 => ?_)
  refine g_if_ne C 4 9 dX2_readsNumber_4 (by decide) ?_ ?_
  · skip
    refine g_aload_n C 9 0 dX2_readsNumber_9 rfl ?_
    refine gfX_X2_token C 10 iX2 (List.mem_cons_of_mem _ (List.mem_append_right _ wgL_4_1.1)) dX2_readsNumber_10 ?_
    refine g_iconst C 13 2 dX2_readsNumber_13 rfl ?_
    refine g_icmp_ne C 14 26 dX2_readsNumber_14 (by decide) ?_ ?_
    · skip
      refine g_aload_n C 26 0 dX2_readsNumber_26 rfl ?_
      refine g_iconst C 27 2 dX2_readsNumber_27 rfl ?_
      refine g_callVi (st := []) (As := [.int 2]) C EX_ok EX_vm 28 5 1 (tX2_fails F 2 u1) rfl gX2_readsNumber_X2_fails rfl rfl rfl (by decide +kernel) ⟨Nat.le_of_ble_eq_true rfl, Nat.le_of_ble_eq_true rfl⟩ rfl rfl rfl (Nat.le_of_ble_eq_true rfl) dX2_readsNumber_28 (fun r4 u3 => ?_)
      exact g_zret C 31 dX2_readsNumber_31
    · skip
      refine g_aload_n C 17 0 dX2_readsNumber_17 rfl ?_
      refine g_iload_n C 18 1 dX2_readsNumber_18 rfl ?_
      refine g_iload_n C 19 2 dX2_readsNumber_19 rfl ?_
      refine g_callVi (st := []) (As := [.int p1, .int p2]) C EX_ok EX_vm 20 5 2 (tX2_isNumberIn F p1 p2 u1) rfl gX2_readsNumber_X2_isNumberIn rfl rfl rfl (by decide +kernel) ⟨Nat.le_of_ble_eq_true rfl, Nat.le_of_ble_eq_true rfl⟩ rfl rfl rfl (Nat.le_of_ble_eq_true rfl) dX2_readsNumber_20 (fun r6 u5 => ?_)
      refine g_goto C 23 31 dX2_readsNumber_23 (by decide) ?_
      exact g_zret C 31 dX2_readsNumber_31
  · skip
    refine g_iconst C 7 0 dX2_readsNumber_7 rfl ?_
    exact g_nret C 8 rfl dX2_readsNumber_8
def pX2_takesFlame (F : Nat) (p1 : Int32) (u : St) : Option (Int32 × St) :=
  bd (pX2_kindNamed F u) (fun (r2 : Int32) (u1 : St) => if r2 = (-4) then bd (pX2_fails F 2 u1) (fun (r16 : Int32) (u15 : St) => gd (z01 r16) (some (r16, u15))) else bd (pX2_readsNumber F 0 99 u1) (fun (r4 : Int32) (u3 : St) => if r4 = 0 then some (0, u3) else gd (inb p1 8) (vl (sta u3 39 p1 r2) (fun (u5 : St) => gd (inb p1 8) (vl (sta u5 40 p1 (u5.1 23)) (fun (u6 : St) => gd (inb p1 8) (vl (sta u6 41 p1 0) (fun (u7 : St) => bd (pX2_readsNext F u7) (fun (r9 : Int32) (u8 : St) => if r9 = 0 then some (0, u8) else if (u8.1 20) = 2 then gd (inb p1 8) (vl (sta u8 41 p1 (u8.1 23)) (fun (u10 : St) => bd (pX2_isNumberIn F 0 9 u10) (fun (r12 : Int32) (u11 : St) => if r12 = 0 then some (0, u11) else bd (pX2_readsNext F u11) (fun (r14 : Int32) (u13 : St) => if r14 = 0 then some (0, u13) else some (1, u13))))) else some (1, u8))))))))))
set_option maxRecDepth 100000 in
set_option maxHeartbeats 4000000 in
theorem tX2_takesFlame {l : Launch} {D : va_G} {cI cZ : ClassId} {ad : Nat → Nat} {tBURNS tFLAME_BOUNDS : Nat} {tS : Option Nat} {adK adV : Nat → Nat} (F : Nat) (p1 : Int32) (u : St) : CtI l D [(cI, .int), (cZ, .boolean)] (wX ad cI cZ) (EX tBURNS tFLAME_BOUNDS tS adK adV) yX2_takesFlame wsX2_takesFlame ({ frames := 6, cells := 0, slots := 0, locals := 127 } : Room) [.ref (ad 5), .int p1] u (pX2_takesFlame F p1 u) := by
  refine ctI_of (own := RX2) (cc := cX2_takesFlame) (n := 3) (ret := (some .boolean)) (by decide) rfl rfl (Nat.le_of_ble_eq_true rfl) (lv := [(0, .ref (ad 5)), (1, .int p1)]) rfl (fun C => ?_)
  have iX0 : ∀ w ∈ wsX00, w ∈ wsX2_takesFlame := fun w h => List.mem_cons_of_mem _ (List.mem_append_right _ (inlX0 w h))
  have iX2 : ∀ w ∈ wsX20, w ∈ wsX2_takesFlame := fun w h => List.mem_cons_of_mem _ (List.mem_append_right _ (inlX2 w h))
  rw [pX2_takesFlame]
  refine g_aload_n C 0 0 dX2_takesFlame_0 rfl ?_
  refine g_callVi (st := []) (As := []) C EX_ok EX_vm 1 5 0 (tX2_kindNamed F u) rfl gX2_takesFlame_X2_kindNamed rfl rfl rfl (by decide +kernel) ⟨Nat.le_of_ble_eq_true rfl, Nat.le_of_ble_eq_true rfl⟩ rfl rfl rfl (Nat.le_of_ble_eq_true rfl) dX2_takesFlame_1 (fun r2 u1 => ?_)
  refine g_istore_n C 4 [(2, .int r2), (0, .ref (ad 5)), (1, .int p1)] dX2_takesFlame_4 (by decide) rfl ?_
  refine g_iload_n C 5 0 dX2_takesFlame_5 rfl ?_
  refine g_bipush C 6 (-4) dX2_takesFlame_6 rfl ?_
  refine g_icmp_ne C 8 17 dX2_takesFlame_8 (by decide) ?_ ?_
  · skip
    refine g_aload_n C 17 1 dX2_takesFlame_17 rfl ?_
    refine g_iconst C 18 0 dX2_takesFlame_18 rfl ?_
    refine g_bipush C 19 99 dX2_takesFlame_19 rfl ?_
    refine g_callVi (st := []) (As := [.int 0, .int 99]) C EX_ok EX_vm 21 5 2 (tX2_readsNumber F 0 99 u1) rfl gX2_takesFlame_X2_readsNumber rfl rfl rfl (by decide +kernel) ⟨Nat.le_of_ble_eq_true rfl, Nat.le_of_ble_eq_true rfl⟩ rfl rfl rfl (Nat.le_of_ble_eq_true rfl) dX2_takesFlame_21 (fun r4 u3 => ?_)
    refine g_if_ne C 24 29 dX2_takesFlame_24 (by decide) ?_ ?_
    · skip
      refine g_aload_n C 29 1 dX2_takesFlame_29 rfl ?_
      refine gfX_X2_told C 30 iX2 (List.mem_cons_of_mem _ (List.mem_append_right _ wgL_3_21.1)) dX2_takesFlame_30 ?_
      refine gfX_X0_kind 3 (by decide) C 33 iX0 (List.mem_cons_of_mem _ (List.mem_append_right _ wgL_11_12.1)) dX2_takesFlame_33 ?_
      refine g_iload_n C 36 2 dX2_takesFlame_36 rfl ?_
      refine g_iload_n C 37 0 dX2_takesFlame_37 rfl ?_
      refine g_iast C 38 (10 + 39) 0 39 (wX_arr 39 (by decide)) (wX_aset 39 (by decide)) rfl dX2_takesFlame_38 (fun u5 => ?_)
      refine g_aload_n C 39 1 dX2_takesFlame_39 rfl ?_
      refine gfX_X2_told C 40 iX2 (List.mem_cons_of_mem _ (List.mem_append_right _ wgL_3_21.1)) dX2_takesFlame_40 ?_
      refine gfX_X0_length 3 (by decide) C 43 iX0 (List.mem_cons_of_mem _ (List.mem_append_right _ wgL_11_13.1)) dX2_takesFlame_43 ?_
      refine g_iload_n C 46 2 dX2_takesFlame_46 rfl ?_
      refine g_aload_n C 47 1 dX2_takesFlame_47 rfl ?_
      refine gfX_X2_number C 48 iX2 (List.mem_cons_of_mem _ (List.mem_append_right _ wgL_4_4.1)) dX2_takesFlame_48 ?_
      refine g_iast C 51 (10 + 40) 0 40 (wX_arr 40 (by decide)) (wX_aset 40 (by decide)) rfl dX2_takesFlame_51 (fun u6 => ?_)
      refine g_aload_n C 52 1 dX2_takesFlame_52 rfl ?_
      refine gfX_X2_told C 53 iX2 (List.mem_cons_of_mem _ (List.mem_append_right _ wgL_3_21.1)) dX2_takesFlame_53 ?_
      refine gfX_X0_guard 3 (by decide) C 56 iX0 (List.mem_cons_of_mem _ (List.mem_append_right _ wgL_11_14.1)) dX2_takesFlame_56 ?_
      refine g_iload_n C 59 2 dX2_takesFlame_59 rfl ?_
      refine g_iconst C 60 0 dX2_takesFlame_60 rfl ?_
      refine g_iast C 61 (10 + 41) 0 41 (wX_arr 41 (by decide)) (wX_aset 41 (by decide)) rfl dX2_takesFlame_61 (fun u7 => ?_)
      refine g_aload_n C 62 1 dX2_takesFlame_62 rfl ?_
      refine g_callVi (st := []) (As := []) C EX_ok EX_vm 63 5 0 (tX2_readsNext F u7) rfl gX2_takesFlame_X2_readsNext rfl rfl rfl (by decide +kernel) ⟨Nat.le_of_ble_eq_true rfl, Nat.le_of_ble_eq_true rfl⟩ rfl rfl rfl (Nat.le_of_ble_eq_true rfl) dX2_takesFlame_63 (fun r9 u8 => ?_)
      refine g_if_ne C 66 71 dX2_takesFlame_66 (by decide) ?_ ?_
      · skip
        refine g_aload_n C 71 1 dX2_takesFlame_71 rfl ?_
        refine gfX_X2_token C 72 iX2 (List.mem_cons_of_mem _ (List.mem_append_right _ wgL_4_1.1)) dX2_takesFlame_72 ?_
        refine g_iconst C 75 2 dX2_takesFlame_75 rfl ?_
        refine g_icmp_eq C 76 81 dX2_takesFlame_76 (by decide) ?_ ?_
        · skip
          refine g_aload_n C 81 1 dX2_takesFlame_81 rfl ?_
          refine gfX_X2_told C 82 iX2 (List.mem_cons_of_mem _ (List.mem_append_right _ wgL_3_21.1)) dX2_takesFlame_82 ?_
          refine gfX_X0_guard 3 (by decide) C 85 iX0 (List.mem_cons_of_mem _ (List.mem_append_right _ wgL_11_14.1)) dX2_takesFlame_85 ?_
          refine g_iload_n C 88 2 dX2_takesFlame_88 rfl ?_
          refine g_aload_n C 89 1 dX2_takesFlame_89 rfl ?_
          refine gfX_X2_number C 90 iX2 (List.mem_cons_of_mem _ (List.mem_append_right _ wgL_4_4.1)) dX2_takesFlame_90 ?_
          refine g_iast C 93 (10 + 41) 0 41 (wX_arr 41 (by decide)) (wX_aset 41 (by decide)) rfl dX2_takesFlame_93 (fun u10 => ?_)
          refine g_aload_n C 94 1 dX2_takesFlame_94 rfl ?_
          refine g_iconst C 95 0 dX2_takesFlame_95 rfl ?_
          refine g_bipush C 96 9 dX2_takesFlame_96 rfl ?_
          refine g_callVi (st := []) (As := [.int 0, .int 9]) C EX_ok EX_vm 98 5 2 (tX2_isNumberIn F 0 9 u10) rfl gX2_takesFlame_X2_isNumberIn rfl rfl rfl (by decide +kernel) ⟨Nat.le_of_ble_eq_true rfl, Nat.le_of_ble_eq_true rfl⟩ rfl rfl rfl (Nat.le_of_ble_eq_true rfl) dX2_takesFlame_98 (fun r12 u11 => ?_)
          refine g_if_eq C 101 115 dX2_takesFlame_101 (by decide) ?_ ?_
          · skip
            refine g_iconst C 115 0 dX2_takesFlame_115 rfl ?_
            exact g_nret C 116 rfl dX2_takesFlame_116
          · skip
            refine g_aload_n C 104 1 dX2_takesFlame_104 rfl ?_
            refine g_callVi (st := []) (As := []) C EX_ok EX_vm 105 5 0 (tX2_readsNext F u11) rfl gX2_takesFlame_X2_readsNext rfl rfl rfl (by decide +kernel) ⟨Nat.le_of_ble_eq_true rfl, Nat.le_of_ble_eq_true rfl⟩ rfl rfl rfl (Nat.le_of_ble_eq_true rfl) dX2_takesFlame_105 (fun r14 u13 => ?_)
            refine g_if_eq C 108 115 dX2_takesFlame_108 (by decide) ?_ ?_
            · skip
              refine g_iconst C 115 0 dX2_takesFlame_115 rfl ?_
              exact g_nret C 116 rfl dX2_takesFlame_116
            · skip
              refine g_iconst C 111 1 dX2_takesFlame_111 rfl ?_
              refine g_goto C 112 116 dX2_takesFlame_112 (by decide) ?_
              exact g_nret C 116 rfl dX2_takesFlame_116
        · skip
          refine g_iconst C 79 1 dX2_takesFlame_79 rfl ?_
          exact g_nret C 80 rfl dX2_takesFlame_80
      · skip
        refine g_iconst C 69 0 dX2_takesFlame_69 rfl ?_
        exact g_nret C 70 rfl dX2_takesFlame_70
    · skip
      refine g_iconst C 27 0 dX2_takesFlame_27 rfl ?_
      exact g_nret C 28 rfl dX2_takesFlame_28
  · skip
    refine g_aload_n C 11 1 dX2_takesFlame_11 rfl ?_
    refine g_iconst C 12 2 dX2_takesFlame_12 rfl ?_
    refine g_callVi (st := []) (As := [.int 2]) C EX_ok EX_vm 13 5 1 (tX2_fails F 2 u1) rfl gX2_takesFlame_X2_fails rfl rfl rfl (by decide +kernel) ⟨Nat.le_of_ble_eq_true rfl, Nat.le_of_ble_eq_true rfl⟩ rfl rfl rfl (Nat.le_of_ble_eq_true rfl) dX2_takesFlame_13 (fun r16 u15 => ?_)
    exact g_zret C 16 dX2_takesFlame_16
def pX0_addCase (F : Nat) (j : Nat) (u : St) : Option (Unit × St) :=
  if 4 ≤ (u.1 (4 * j + 0)) then some ((), u) else gd (inb (u.1 (4 * j + 0)) 4) (vl (sta u (13 * j + 3) (u.1 (4 * j + 0)) 0) (fun (u1 : St) => gd (inb (u1.1 (4 * j + 0)) 4) (vl (sta u1 (13 * j + 4) (u1.1 (4 * j + 0)) 0) (fun (u2 : St) => gd (inb (u2.1 (4 * j + 0)) 4) (vl (sta u2 (13 * j + 5) (u2.1 (4 * j + 0)) (-4)) (fun (u3 : St) => gd (inb (u3.1 (4 * j + 0)) 4) (vl (sta u3 (13 * j + 6) (u3.1 (4 * j + 0)) (-4)) (fun (u4 : St) => vl (stf u4 (4 * j + 0) ((u4.1 (4 * j + 0)) + 1)) (fun (u5 : St) => some ((), u5))))))))))
set_option maxRecDepth 100000 in
set_option maxHeartbeats 4000000 in
theorem tX0_addCase {l : Launch} {D : va_G} {cI cZ : ClassId} {ad : Nat → Nat} {tBURNS tFLAME_BOUNDS : Nat} {tS : Option Nat} {adK adV : Nat → Nat} (F : Nat) (j : Nat) (hj : j < 4) (u : St) : CtV l D [(cI, .int), (cZ, .boolean)] (wX ad cI cZ) (EX tBURNS tFLAME_BOUNDS tS adK adV) yX0_addCase wsX0_addCase ({ frames := 0, cells := 0, slots := 0, locals := 0 } : Room) [.ref (ad (1 + j))] u (pX0_addCase F j u) := by
  refine ctV_of (own := RX0) (cc := cX0_addCase) (n := 1) (ret := none) (by decide) rfl rfl (Nat.le_of_ble_eq_true rfl) (lv := [(0, .ref (ad (1 + j)))]) rfl (fun C => ?_)
  have iX0 : ∀ w ∈ wsX00, w ∈ wsX0_addCase := fun w h => List.mem_cons_of_mem _ (List.mem_append_right _ (inlX0 w h))
  rw [pX0_addCase]
  refine g_aload_n C 0 0 dX0_addCase_0 rfl ?_
  refine gfX_X0_cases j hj C 1 iX0 (List.mem_cons_of_mem _ (List.mem_append_right _ wgL_2_23.1)) dX0_addCase_1 ?_
  refine g_iconst C 4 4 dX0_addCase_4 rfl ?_
  refine g_icmp_ge C 5 60 dX0_addCase_5 (by decide) ?_ ?_
  · skip
    exact g_vret C 60 dX0_addCase_60
  · skip
    refine g_aload_n C 8 0 dX0_addCase_8 rfl ?_
    refine gfX_X0_verdict j hj C 9 iX0 (List.mem_cons_of_mem _ (List.mem_append_right _ wgL_3_6.1)) dX0_addCase_9 ?_
    refine g_aload_n C 12 0 dX0_addCase_12 rfl ?_
    refine gfX_X0_cases j hj C 13 iX0 (List.mem_cons_of_mem _ (List.mem_append_right _ wgL_2_23.1)) dX0_addCase_13 ?_
    refine g_iconst C 16 0 dX0_addCase_16 rfl ?_
    refine g_iast C 17 (10 + (13 * j + 3)) 0 (13 * j + 3) (wX_X0_verdict j hj) (wX_X0_verdict_set j hj) rfl dX0_addCase_17 (fun u1 => ?_)
    refine g_aload_n C 18 0 dX0_addCase_18 rfl ?_
    refine gfX_X0_appealed j hj C 19 iX0 (List.mem_cons_of_mem _ (List.mem_append_right _ wgL_3_7.1)) dX0_addCase_19 ?_
    refine g_aload_n C 22 0 dX0_addCase_22 rfl ?_
    refine gfX_X0_cases j hj C 23 iX0 (List.mem_cons_of_mem _ (List.mem_append_right _ wgL_2_23.1)) dX0_addCase_23 ?_
    refine g_iconst C 26 0 dX0_addCase_26 rfl ?_
    refine g_iast C 27 (10 + (13 * j + 4)) 0 (13 * j + 4) (wX_X0_appealed j hj) (wX_X0_appealed_set j hj) rfl dX0_addCase_27 (fun u2 => ?_)
    refine g_aload_n C 28 0 dX0_addCase_28 rfl ?_
    refine gfX_X0_endMinute j hj C 29 iX0 (List.mem_cons_of_mem _ (List.mem_append_right _ wgL_3_8.1)) dX0_addCase_29 ?_
    refine g_aload_n C 32 0 dX0_addCase_32 rfl ?_
    refine gfX_X0_cases j hj C 33 iX0 (List.mem_cons_of_mem _ (List.mem_append_right _ wgL_2_23.1)) dX0_addCase_33 ?_
    refine g_bipush C 36 (-4) dX0_addCase_36 rfl ?_
    refine g_iast C 38 (10 + (13 * j + 5)) 0 (13 * j + 5) (wX_X0_endMinute j hj) (wX_X0_endMinute_set j hj) rfl dX0_addCase_38 (fun u3 => ?_)
    refine g_aload_n C 39 0 dX0_addCase_39 rfl ?_
    refine gfX_X0_endJudge j hj C 40 iX0 (List.mem_cons_of_mem _ (List.mem_append_right _ wgL_3_9.1)) dX0_addCase_40 ?_
    refine g_aload_n C 43 0 dX0_addCase_43 rfl ?_
    refine gfX_X0_cases j hj C 44 iX0 (List.mem_cons_of_mem _ (List.mem_append_right _ wgL_2_23.1)) dX0_addCase_44 ?_
    refine g_bipush C 47 (-4) dX0_addCase_47 rfl ?_
    refine g_iast C 49 (10 + (13 * j + 6)) 0 (13 * j + 6) (wX_X0_endJudge j hj) (wX_X0_endJudge_set j hj) rfl dX0_addCase_49 (fun u4 => ?_)
    refine g_aload_n C 50 0 dX0_addCase_50 rfl ?_
    refine g_dup C 51 dX0_addCase_51 rfl ?_
    refine gfX_X0_cases j hj C 52 iX0 (List.mem_cons_of_mem _ (List.mem_append_right _ wgL_2_23.1)) dX0_addCase_52 ?_
    refine g_iconst C 55 1 dX0_addCase_55 rfl ?_
    refine g_iadd C 56 dX0_addCase_56 ?_
    refine pfX_X0_cases j hj C 57 iX0 (List.mem_cons_of_mem _ (List.mem_append_right _ wgL_2_23.1)) dX0_addCase_57 (fun u5 => ?_)
    exact g_vret C 60 dX0_addCase_60
def pX2_takesSign (F : Nat)  (u : St) : Option (Int32 × St) :=
  if (u.1 20) = 3 then bd (pX2_readsNext F u) (fun (r4 : Int32) (u3 : St) => gd (z01 r4) (some (r4, u3))) else bd (pX2_fails F 2 u) (fun (r2 : Int32) (u1 : St) => gd (z01 r2) (some (r2, u1)))
set_option maxRecDepth 100000 in
set_option maxHeartbeats 4000000 in
theorem tX2_takesSign {l : Launch} {D : va_G} {cI cZ : ClassId} {ad : Nat → Nat} {tBURNS tFLAME_BOUNDS : Nat} {tS : Option Nat} {adK adV : Nat → Nat} (F : Nat)  (u : St) : CtI l D [(cI, .int), (cZ, .boolean)] (wX ad cI cZ) (EX tBURNS tFLAME_BOUNDS tS adK adV) yX2_takesSign wsX2_takesSign ({ frames := 2, cells := 0, slots := 0, locals := 42 } : Room) [.ref (ad 5)] u (pX2_takesSign F u) := by
  refine ctI_of (own := RX2) (cc := cX2_takesSign) (n := 1) (ret := (some .boolean)) (by decide) rfl rfl (Nat.le_of_ble_eq_true rfl) (lv := [(0, .ref (ad 5))]) rfl (fun C => ?_)
  have iX2 : ∀ w ∈ wsX20, w ∈ wsX2_takesSign := fun w h => List.mem_cons_of_mem _ (List.mem_append_right _ (inlX2 w h))
  rw [pX2_takesSign]
  refine g_aload_n C 0 0 dX2_takesSign_0 rfl ?_
  refine gfX_X2_token C 1 iX2 (List.mem_cons_of_mem _ (List.mem_append_right _ wgL_4_1.1)) dX2_takesSign_1 ?_
  refine g_iconst C 4 3 dX2_takesSign_4 rfl ?_
  refine g_icmp_ne C 5 15 dX2_takesSign_5 (by decide) ?_ ?_
  · skip
    refine g_aload_n C 15 0 dX2_takesSign_15 rfl ?_
    refine g_iconst C 16 2 dX2_takesSign_16 rfl ?_
    refine g_callVi (st := []) (As := [.int 2]) C EX_ok EX_vm 17 5 1 (tX2_fails F 2 u) rfl gX2_takesSign_X2_fails rfl rfl rfl (by decide +kernel) ⟨Nat.le_of_ble_eq_true rfl, Nat.le_of_ble_eq_true rfl⟩ rfl rfl rfl (Nat.le_of_ble_eq_true rfl) dX2_takesSign_17 (fun r2 u1 => ?_)
    exact g_zret C 20 dX2_takesSign_20
  · skip
    refine g_aload_n C 8 0 dX2_takesSign_8 rfl ?_
    refine g_callVi (st := []) (As := []) C EX_ok EX_vm 9 5 0 (tX2_readsNext F u) rfl gX2_takesSign_X2_readsNext rfl rfl rfl (by decide +kernel) ⟨Nat.le_of_ble_eq_true rfl, Nat.le_of_ble_eq_true rfl⟩ rfl rfl rfl (Nat.le_of_ble_eq_true rfl) dX2_takesSign_9 (fun r4 u3 => ?_)
    refine g_goto C 12 20 dX2_takesSign_12 (by decide) ?_
    exact g_zret C 20 dX2_takesSign_20
def pX2_takesCase (F : Nat)  (u : St) : Option (Int32 × St) :=
  if (u.1 12) < 4 then bd (pX2_readsNext F u) (fun (r2 : Int32) (u1 : St) => if r2 = 0 then some (0, u1) else bd (pX2_takesFlame F (2 * (u1.1 12)) u1) (fun (r4 : Int32) (u3 : St) => if r4 = 0 then some (0, u3) else bd (pX2_takesFlame F ((2 * (u3.1 12)) + 1) u3) (fun (r6 : Int32) (u5 : St) => if r6 = 0 then some (0, u5) else bd (pX0_addCase F 3 u5) (fun (_ : Unit) (u7 : St) => bd (pX2_takesSign F u7) (fun (r9 : Int32) (u8 : St) => gd (z01 r9) (some (r9, u8))))))) else bd (pX2_fails F 5 u) (fun (r11 : Int32) (u10 : St) => gd (z01 r11) (some (r11, u10)))
set_option maxRecDepth 100000 in
set_option maxHeartbeats 4000000 in
theorem tX2_takesCase {l : Launch} {D : va_G} {cI cZ : ClassId} {ad : Nat → Nat} {tBURNS tFLAME_BOUNDS : Nat} {tS : Option Nat} {adK adV : Nat → Nat} (F : Nat)  (u : St) : CtI l D [(cI, .int), (cZ, .boolean)] (wX ad cI cZ) (EX tBURNS tFLAME_BOUNDS tS adK adV) yX2_takesCase wsX2_takesCase ({ frames := 7, cells := 0, slots := 0, locals := 149 } : Room) [.ref (ad 5)] u (pX2_takesCase F u) := by
  refine ctI_of (own := RX2) (cc := cX2_takesCase) (n := 1) (ret := (some .boolean)) (by decide) rfl rfl (Nat.le_of_ble_eq_true rfl) (lv := [(0, .ref (ad 5))]) rfl (fun C => ?_)
  have iX0 : ∀ w ∈ wsX00, w ∈ wsX2_takesCase := fun w h => List.mem_cons_of_mem _ (List.mem_append_right _ (inlX0 w h))
  have iX2 : ∀ w ∈ wsX20, w ∈ wsX2_takesCase := fun w h => List.mem_cons_of_mem _ (List.mem_append_right _ (inlX2 w h))
  rw [pX2_takesCase]
  refine g_aload_n C 0 0 dX2_takesCase_0 rfl ?_
  refine gfX_X2_told C 1 iX2 (List.mem_cons_of_mem _ (List.mem_append_right _ wgL_3_21.1)) dX2_takesCase_1 ?_
  refine gfX_X0_cases 3 (by decide) C 4 iX0 (List.mem_cons_of_mem _ (List.mem_append_right _ wgL_11_7.1)) dX2_takesCase_4 ?_
  refine g_iconst C 7 4 dX2_takesCase_7 rfl ?_
  refine g_icmp_lt C 8 17 dX2_takesCase_8 (by decide) ?_ ?_
  · skip
    refine g_aload_n C 17 0 dX2_takesCase_17 rfl ?_
    refine g_callVi (st := []) (As := []) C EX_ok EX_vm 18 5 0 (tX2_readsNext F u) rfl gX2_takesCase_X2_readsNext rfl rfl rfl (by decide +kernel) ⟨Nat.le_of_ble_eq_true rfl, Nat.le_of_ble_eq_true rfl⟩ rfl rfl rfl (Nat.le_of_ble_eq_true rfl) dX2_takesCase_18 (fun r2 u1 => ?_)
    refine g_if_eq C 21 58 dX2_takesCase_21 (by decide) ?_ ?_
    · skip
      refine g_iconst C 58 0 dX2_takesCase_58 rfl ?_
      exact g_nret C 59 rfl dX2_takesCase_59
    · skip
      refine g_aload_n C 24 0 dX2_takesCase_24 rfl ?_
      refine g_iconst C 25 2 dX2_takesCase_25 rfl ?_
      refine g_aload_n C 26 0 dX2_takesCase_26 rfl ?_
      refine gfX_X2_told C 27 iX2 (List.mem_cons_of_mem _ (List.mem_append_right _ wgL_3_21.1)) dX2_takesCase_27 ?_
      refine gfX_X0_cases 3 (by decide) C 30 iX0 (List.mem_cons_of_mem _ (List.mem_append_right _ wgL_11_7.1)) dX2_takesCase_30 ?_
      refine g_imul C 33 dX2_takesCase_33 ?_
      refine g_callVi (st := []) (As := [.int (2 * (u1.1 12))]) C EX_ok EX_vm 34 5 1 (tX2_takesFlame F (2 * (u1.1 12)) u1) rfl gX2_takesCase_X2_takesFlame rfl rfl rfl (by decide +kernel) ⟨Nat.le_of_ble_eq_true rfl, Nat.le_of_ble_eq_true rfl⟩ rfl rfl rfl (Nat.le_of_ble_eq_true rfl) dX2_takesCase_34 (fun r4 u3 => ?_)
      refine g_if_eq C 37 58 dX2_takesCase_37 (by decide) ?_ ?_
      · skip
        refine g_iconst C 58 0 dX2_takesCase_58 rfl ?_
        exact g_nret C 59 rfl dX2_takesCase_59
      · skip
        refine g_aload_n C 40 0 dX2_takesCase_40 rfl ?_
        refine g_iconst C 41 2 dX2_takesCase_41 rfl ?_
        refine g_aload_n C 42 0 dX2_takesCase_42 rfl ?_
        refine gfX_X2_told C 43 iX2 (List.mem_cons_of_mem _ (List.mem_append_right _ wgL_3_21.1)) dX2_takesCase_43 ?_
        refine gfX_X0_cases 3 (by decide) C 46 iX0 (List.mem_cons_of_mem _ (List.mem_append_right _ wgL_11_7.1)) dX2_takesCase_46 ?_
        refine g_imul C 49 dX2_takesCase_49 ?_
        refine g_iconst C 50 1 dX2_takesCase_50 rfl ?_
        refine g_iadd C 51 dX2_takesCase_51 ?_
        refine g_callVi (st := []) (As := [.int ((2 * (u3.1 12)) + 1)]) C EX_ok EX_vm 52 5 1 (tX2_takesFlame F ((2 * (u3.1 12)) + 1) u3) rfl gX2_takesCase_X2_takesFlame rfl rfl rfl (by decide +kernel) ⟨Nat.le_of_ble_eq_true rfl, Nat.le_of_ble_eq_true rfl⟩ rfl rfl rfl (Nat.le_of_ble_eq_true rfl) dX2_takesCase_52 (fun r6 u5 => ?_)
        refine g_if_ne C 55 60 dX2_takesCase_55 (by decide) ?_ ?_
        · skip
          refine g_aload_n C 60 0 dX2_takesCase_60 rfl ?_
          refine gfX_X2_told C 61 iX2 (List.mem_cons_of_mem _ (List.mem_append_right _ wgL_3_21.1)) dX2_takesCase_61 ?_
          refine g_callVv (st := []) (As := []) C EX_ok EX_vm 64 4 0 (tX0_addCase F 3 (by decide) u5) rfl gX2_takesCase_X0_addCase rfl rfl rfl (by decide +kernel) ⟨Nat.le_of_ble_eq_true rfl, Nat.le_of_ble_eq_true rfl⟩ (wX_X0 ad cI cZ _ 3 (by decide)) rfl rfl (Nat.le_of_ble_eq_true rfl) dX2_takesCase_64 (fun u7 => ?_)
          refine g_aload_n C 67 0 dX2_takesCase_67 rfl ?_
          refine g_callVi (st := []) (As := []) C EX_ok EX_vm 68 5 0 (tX2_takesSign F u7) rfl gX2_takesCase_X2_takesSign rfl rfl rfl (by decide +kernel) ⟨Nat.le_of_ble_eq_true rfl, Nat.le_of_ble_eq_true rfl⟩ rfl rfl rfl (Nat.le_of_ble_eq_true rfl) dX2_takesCase_68 (fun r9 u8 => ?_)
          exact g_zret C 71 dX2_takesCase_71
        · skip
          refine g_iconst C 58 0 dX2_takesCase_58 rfl ?_
          exact g_nret C 59 rfl dX2_takesCase_59
  · skip
    refine g_aload_n C 11 0 dX2_takesCase_11 rfl ?_
    refine g_iconst C 12 5 dX2_takesCase_12 rfl ?_
    refine g_callVi (st := []) (As := [.int 5]) C EX_ok EX_vm 13 5 1 (tX2_fails F 5 u) rfl gX2_takesCase_X2_fails rfl rfl rfl (by decide +kernel) ⟨Nat.le_of_ble_eq_true rfl, Nat.le_of_ble_eq_true rfl⟩ rfl rfl rfl (Nat.le_of_ble_eq_true rfl) dX2_takesCase_13 (fun r11 u10 => ?_)
    exact g_zret C 16 dX2_takesCase_16
def pX0_addDraught (F : Nat) (j : Nat) (p1 : Int32) (p2 : Int32) (u : St) : Option (Int32 × St) :=
  if (u.1 (4 * j + 2)) < 4 then gd (inb (u.1 (4 * j + 2)) 4) (vl (sta u (13 * j + 9) (u.1 (4 * j + 2)) p1) (fun (u1 : St) => gd (inb (u1.1 (4 * j + 2)) 4) (vl (sta u1 (13 * j + 10) (u1.1 (4 * j + 2)) p2) (fun (u2 : St) => vl (stf u2 (4 * j + 2) ((u2.1 (4 * j + 2)) + 1)) (fun (u3 : St) => some (1, u3)))))) else some (0, u)
set_option maxRecDepth 100000 in
set_option maxHeartbeats 4000000 in
theorem tX0_addDraught {l : Launch} {D : va_G} {cI cZ : ClassId} {ad : Nat → Nat} {tBURNS tFLAME_BOUNDS : Nat} {tS : Option Nat} {adK adV : Nat → Nat} (F : Nat) (j : Nat) (hj : j < 4) (p1 : Int32) (p2 : Int32) (u : St) : CtI l D [(cI, .int), (cZ, .boolean)] (wX ad cI cZ) (EX tBURNS tFLAME_BOUNDS tS adK adV) yX0_addDraught wsX0_addDraught ({ frames := 0, cells := 0, slots := 0, locals := 0 } : Room) [.ref (ad (1 + j)), .int p1, .int p2] u (pX0_addDraught F j p1 p2 u) := by
  refine ctI_of (own := RX0) (cc := cX0_addDraught) (n := 3) (ret := (some .boolean)) (by decide) rfl rfl (Nat.le_of_ble_eq_true rfl) (lv := [(0, .ref (ad (1 + j))), (1, .int p1), (2, .int p2)]) rfl (fun C => ?_)
  have iX0 : ∀ w ∈ wsX00, w ∈ wsX0_addDraught := fun w h => List.mem_cons_of_mem _ (List.mem_append_right _ (inlX0 w h))
  rw [pX0_addDraught]
  refine g_aload_n C 0 0 dX0_addDraught_0 rfl ?_
  refine gfX_X0_draughts j hj C 1 iX0 (List.mem_cons_of_mem _ (List.mem_append_right _ wgL_3_1.1)) dX0_addDraught_1 ?_
  refine g_iconst C 4 4 dX0_addDraught_4 rfl ?_
  refine g_icmp_lt C 5 10 dX0_addDraught_5 (by decide) ?_ ?_
  · skip
    refine g_aload_n C 10 0 dX0_addDraught_10 rfl ?_
    refine gfX_X0_minute j hj C 11 iX0 (List.mem_cons_of_mem _ (List.mem_append_right _ wgL_3_12.1)) dX0_addDraught_11 ?_
    refine g_aload_n C 14 0 dX0_addDraught_14 rfl ?_
    refine gfX_X0_draughts j hj C 15 iX0 (List.mem_cons_of_mem _ (List.mem_append_right _ wgL_3_1.1)) dX0_addDraught_15 ?_
    refine g_iload_n C 18 1 dX0_addDraught_18 rfl ?_
    refine g_iast C 19 (10 + (13 * j + 9)) 0 (13 * j + 9) (wX_X0_minute j hj) (wX_X0_minute_set j hj) rfl dX0_addDraught_19 (fun u1 => ?_)
    refine g_aload_n C 20 0 dX0_addDraught_20 rfl ?_
    refine gfX_X0_strength j hj C 21 iX0 (List.mem_cons_of_mem _ (List.mem_append_right _ wgL_3_13.1)) dX0_addDraught_21 ?_
    refine g_aload_n C 24 0 dX0_addDraught_24 rfl ?_
    refine gfX_X0_draughts j hj C 25 iX0 (List.mem_cons_of_mem _ (List.mem_append_right _ wgL_3_1.1)) dX0_addDraught_25 ?_
    refine g_iload_n C 28 2 dX0_addDraught_28 rfl ?_
    refine g_iast C 29 (10 + (13 * j + 10)) 0 (13 * j + 10) (wX_X0_strength j hj) (wX_X0_strength_set j hj) rfl dX0_addDraught_29 (fun u2 => ?_)
    refine g_aload_n C 30 0 dX0_addDraught_30 rfl ?_
    refine g_dup C 31 dX0_addDraught_31 rfl ?_
    refine gfX_X0_draughts j hj C 32 iX0 (List.mem_cons_of_mem _ (List.mem_append_right _ wgL_3_1.1)) dX0_addDraught_32 ?_
    refine g_iconst C 35 1 dX0_addDraught_35 rfl ?_
    refine g_iadd C 36 dX0_addDraught_36 ?_
    refine pfX_X0_draughts j hj C 37 iX0 (List.mem_cons_of_mem _ (List.mem_append_right _ wgL_3_1.1)) dX0_addDraught_37 (fun u3 => ?_)
    refine g_iconst C 40 1 dX0_addDraught_40 rfl ?_
    exact g_nret C 41 rfl dX0_addDraught_41
  · skip
    refine g_iconst C 8 0 dX0_addDraught_8 rfl ?_
    exact g_nret C 9 rfl dX0_addDraught_9
