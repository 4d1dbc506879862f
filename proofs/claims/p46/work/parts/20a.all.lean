section
def pX6_isIn (F : Nat) (p1 : Int64) (p2 : Int32) (p3 : Int32) (u : St) : Option (Int32 × St) :=
  if (lg_cmp p1 (Int32.toInt64 p2)) < 0 then some (0, u) else if 0 < (lg_cmp p1 (Int32.toInt64 p3)) then some (0, u) else some (1, u)
set_option maxRecDepth 100000 in
set_option maxHeartbeats 4000000 in
theorem tX6_isIn {l : Launch} {D : va_G} {cI cZ : ClassId} {ad : Nat → Nat} {tBURNS tFLAME_BOUNDS : Nat} {tS : Option Nat} {adK adV : Nat → Nat} (F : Nat) (p1 : Int64) (p2 : Int32) (p3 : Int32) (u : St) : CtI l D [(cI, .int), (cZ, .boolean)] (wX ad cI cZ) (EX tBURNS tFLAME_BOUNDS tS adK adV) yX6_isIn wsX6_isIn ({ frames := 0, cells := 0, slots := 0, locals := 0 } : Room) [.long p1, .int p2, .int p3] u (pX6_isIn F p1 p2 p3 u) := by
  refine ctI_of (own := RX6) (cc := cX6_isIn) (n := 4) (ret := (some .boolean)) (by decide) rfl rfl (Nat.le_of_ble_eq_true rfl) (lv := [(0, .long p1), (2, .int p2), (3, .int p3)]) rfl (fun C => ?_)
  rw [pX6_isIn]
  refine g_lload_n C 0 0 dX6_isIn_0 rfl ?_
  refine g_iload_n C 1 1 dX6_isIn_1 rfl ?_
  refine g_i2l C 2 dX6_isIn_2 ?_
  refine g_lcmp C 3 dX6_isIn_3 ?_
  refine g_if_lt C 4 18 dX6_isIn_4 (by decide) ?_ ?_
  · skip
    refine g_iconst C 18 0 dX6_isIn_18 rfl ?_
    exact g_nret C 19 rfl dX6_isIn_19
  · skip
    refine g_lload_n C 7 0 dX6_isIn_7 rfl ?_
    refine g_iload_n C 8 2 dX6_isIn_8 rfl ?_
    refine g_i2l C 9 dX6_isIn_9 ?_
    refine g_lcmp C 10 dX6_isIn_10 ?_
    refine g_if_gt C 11 18 dX6_isIn_11 (by decide) ?_ ?_
    · skip
      refine g_iconst C 18 0 dX6_isIn_18 rfl ?_
      exact g_nret C 19 rfl dX6_isIn_19
    · skip
      refine g_iconst C 14 1 dX6_isIn_14 rfl ?_
      refine g_goto C 15 19 dX6_isIn_15 (by decide) ?_
      exact g_nret C 19 rfl dX6_isIn_19
def pX2_add (F : Nat) (p1 : Int32) (u : St) : Option (Int32 × St) :=
  if (u.1 17) < 160 then gd (inb (u.1 17) 160) (vl (sta u 54 (u.1 17) p1) (fun (u1 : St) => vl (stf u1 17 ((u1.1 17) + 1)) (fun (u2 : St) => some (1, u2)))) else some (0, u)
set_option maxRecDepth 100000 in
set_option maxHeartbeats 4000000 in
theorem tX2_add {l : Launch} {D : va_G} {cI cZ : ClassId} {ad : Nat → Nat} {tBURNS tFLAME_BOUNDS : Nat} {tS : Option Nat} {adK adV : Nat → Nat} (F : Nat) (p1 : Int32) (u : St) : CtI l D [(cI, .int), (cZ, .boolean)] (wX ad cI cZ) (EX tBURNS tFLAME_BOUNDS tS adK adV) yX2_add wsX2_add ({ frames := 0, cells := 0, slots := 0, locals := 0 } : Room) [.ref (ad 5), .int p1] u (pX2_add F p1 u) := by
  refine ctI_of (own := RX2) (cc := cX2_add) (n := 2) (ret := (some .boolean)) (by decide) rfl rfl (Nat.le_of_ble_eq_true rfl) (lv := [(0, .ref (ad 5)), (1, .int p1)]) rfl (fun C => ?_)
  have iX2 : ∀ w ∈ wsX20, w ∈ wsX2_add := fun w h => List.mem_cons_of_mem _ (List.mem_append_right _ (inlX2 w h))
  rw [pX2_add]
  refine g_aload_n C 0 0 dX2_add_0 rfl ?_
  refine gfX_X2_size C 1 iX2 (List.mem_cons_of_mem _ (List.mem_append_right _ wgL_3_22.1)) dX2_add_1 ?_
  refine g_sipush C 4 160 dX2_add_4 rfl ?_
  refine g_icmp_lt C 7 12 dX2_add_7 (by decide) ?_ ?_
  · skip
    refine g_aload_n C 12 0 dX2_add_12 rfl ?_
    refine gfX_X2_tape C 13 iX2 (List.mem_cons_of_mem _ (List.mem_append_right _ wgL_3_19.1)) dX2_add_13 ?_
    refine g_aload_n C 16 0 dX2_add_16 rfl ?_
    refine gfX_X2_size C 17 iX2 (List.mem_cons_of_mem _ (List.mem_append_right _ wgL_3_22.1)) dX2_add_17 ?_
    refine g_iload_n C 20 1 dX2_add_20 rfl ?_
    refine g_iast C 21 (10 + 54) 0 54 (wX_arr 54 (by decide)) (wX_aset 54 (by decide)) rfl dX2_add_21 (fun u1 => ?_)
    refine g_aload_n C 22 0 dX2_add_22 rfl ?_
    refine g_dup C 23 dX2_add_23 rfl ?_
    refine gfX_X2_size C 24 iX2 (List.mem_cons_of_mem _ (List.mem_append_right _ wgL_3_22.1)) dX2_add_24 ?_
    refine g_iconst C 27 1 dX2_add_27 rfl ?_
    refine g_iadd C 28 dX2_add_28 ?_
    refine pfX_X2_size C 29 iX2 (List.mem_cons_of_mem _ (List.mem_append_right _ wgL_3_22.1)) dX2_add_29 (fun u2 => ?_)
    refine g_iconst C 32 1 dX2_add_32 rfl ?_
    exact g_nret C 33 rfl dX2_add_33
  · skip
    refine g_iconst C 10 0 dX2_add_10 rfl ?_
    exact g_nret C 11 rfl dX2_add_11
def pX6_feed (F : Nat) (p1 : Int32) (u : St) : Option (Int32 × St) :=
  bd (pX6_isIn F (Int32.toInt64 p1) 0 127 u) (fun (r2 : Int32) (u1 : St) => if r2 = 0 then some ((-1), u1) else bd (pX2_add F p1 u1) (fun (r4 : Int32) (u3 : St) => if r4 = 0 then some ((-3), u3) else some ((u3.1 17), u3)))
set_option maxRecDepth 100000 in
set_option maxHeartbeats 4000000 in
theorem tX6_feed {l : Launch} {D : va_G} {cI cZ : ClassId} {ad : Nat → Nat} {tBURNS tFLAME_BOUNDS : Nat} {tS : Option Nat} {adK adV : Nat → Nat} (F : Nat) (p1 : Int32) (u : St) : CtI l D [(cI, .int), (cZ, .boolean)] (wX ad cI cZ) (EX tBURNS tFLAME_BOUNDS tS adK adV) yX6_feed wsX6_feed ({ frames := 1, cells := 0, slots := 0, locals := 23 } : Room) [.ref (ad 0), .int p1] u (pX6_feed F p1 u) := by
  refine ctI_of (own := RX6) (cc := cX6_feed) (n := 2) (ret := (some .int)) (by decide) rfl rfl (Nat.le_of_ble_eq_true rfl) (lv := [(0, .ref (ad 0)), (1, .int p1)]) rfl (fun C => ?_)
  have iX2 : ∀ w ∈ wsX20, w ∈ wsX6_feed := fun w h => List.mem_cons_of_mem _ (List.mem_append_right _ (inlX2 w h))
  have iX6 : ∀ w ∈ wsX60, w ∈ wsX6_feed := fun w h => List.mem_cons_of_mem _ (List.mem_append_right _ (inlX6 w h))
  rw [pX6_feed]
  refine g_iload_n C 0 1 dX6_feed_0 rfl ?_
  refine g_i2l C 1 dX6_feed_1 ?_
  refine g_iconst C 2 0 dX6_feed_2 rfl ?_
  refine g_bipush C 3 127 dX6_feed_3 rfl ?_
  refine g_callSi (st := []) (As := [.long (Int32.toInt64 p1), .int 0, .int 127]) C EX_ok EX_vm 5 3 (tX6_isIn F (Int32.toInt64 p1) 0 127 u) rfl gX6_feed_X6_isIn rfl rfl rfl (by decide +kernel) ⟨Nat.le_of_ble_eq_true rfl, Nat.le_of_ble_eq_true rfl⟩ rfl (Nat.le_of_ble_eq_true rfl) dX6_feed_5 (fun r2 u1 => ?_)
  refine g_if_ne C 8 13 dX6_feed_8 (by decide) ?_ ?_
  · skip
    refine g_aload_n C 13 0 dX6_feed_13 rfl ?_
    refine gfX_X6_reader C 14 iX6 (List.mem_cons_of_mem _ (List.mem_append_right _ wgL_1_23.1)) dX6_feed_14 ?_
    refine g_iload_n C 17 1 dX6_feed_17 rfl ?_
    refine g_callVi (st := []) (As := [.int p1]) C EX_ok EX_vm 18 5 1 (tX2_add F p1 u1) rfl gX6_feed_X2_add rfl rfl rfl (by decide +kernel) ⟨Nat.le_of_ble_eq_true rfl, Nat.le_of_ble_eq_true rfl⟩ rfl rfl rfl (Nat.le_of_ble_eq_true rfl) dX6_feed_18 (fun r4 u3 => ?_)
    refine g_if_eq C 21 34 dX6_feed_21 (by decide) ?_ ?_
    · skip
      refine g_bipush C 34 (-3) dX6_feed_34 rfl ?_
      exact g_iret C 36 dX6_feed_36
    · skip
      refine g_aload_n C 24 0 dX6_feed_24 rfl ?_
      refine gfX_X6_reader C 25 iX6 (List.mem_cons_of_mem _ (List.mem_append_right _ wgL_1_23.1)) dX6_feed_25 ?_
      refine gfX_X2_size C 28 iX2 (List.mem_cons_of_mem _ (List.mem_append_right _ wgL_6_7.1)) dX6_feed_28 ?_
      refine g_goto C 31 36 dX6_feed_31 (by decide) ?_
      exact g_iret C 36 dX6_feed_36
  · skip
    refine g_iconst C 11 (-1) dX6_feed_11 rfl ?_
    exact g_iret C 12 dX6_feed_12
def pX6_end (F : Nat) (p1 : Int32) (u : St) : Option (Int32 × St) :=
  bd (pX6_isIn F (Int32.toInt64 p1) 0 (u.1 17) u) (fun (r2 : Int32) (u1 : St) => if r2 = 0 then some ((-1), u1) else vl (u1.1 17) (fun v3 => vl (stf u1 17 p1) (fun (u4 : St) => some (v3, u4))))
set_option maxRecDepth 100000 in
set_option maxHeartbeats 4000000 in
theorem tX6_end {l : Launch} {D : va_G} {cI cZ : ClassId} {ad : Nat → Nat} {tBURNS tFLAME_BOUNDS : Nat} {tS : Option Nat} {adK adV : Nat → Nat} (F : Nat) (p1 : Int32) (u : St) : CtI l D [(cI, .int), (cZ, .boolean)] (wX ad cI cZ) (EX tBURNS tFLAME_BOUNDS tS adK adV) yX6_end wsX6_end ({ frames := 1, cells := 0, slots := 0, locals := 23 } : Room) [.ref (ad 0), .int p1] u (pX6_end F p1 u) := by
  refine ctI_of (own := RX6) (cc := cX6_end) (n := 3) (ret := (some .int)) (by decide) rfl rfl (Nat.le_of_ble_eq_true rfl) (lv := [(0, .ref (ad 0)), (1, .int p1)]) rfl (fun C => ?_)
  have iX2 : ∀ w ∈ wsX20, w ∈ wsX6_end := fun w h => List.mem_cons_of_mem _ (List.mem_append_right _ (inlX2 w h))
  have iX6 : ∀ w ∈ wsX60, w ∈ wsX6_end := fun w h => List.mem_cons_of_mem _ (List.mem_append_right _ (inlX6 w h))
  rw [pX6_end]
  refine g_iload_n C 0 1 dX6_end_0 rfl ?_
  refine g_i2l C 1 dX6_end_1 ?_
  refine g_iconst C 2 0 dX6_end_2 rfl ?_
  refine g_aload_n C 3 0 dX6_end_3 rfl ?_
  refine gfX_X6_reader C 4 iX6 (List.mem_cons_of_mem _ (List.mem_append_right _ wgL_1_23.1)) dX6_end_4 ?_
  refine gfX_X2_size C 7 iX2 (List.mem_cons_of_mem _ (List.mem_append_right _ wgL_6_7.1)) dX6_end_7 ?_
  refine g_callSi (st := []) (As := [.long (Int32.toInt64 p1), .int 0, .int (u.1 17)]) C EX_ok EX_vm 10 3 (tX6_isIn F (Int32.toInt64 p1) 0 (u.1 17) u) rfl gX6_end_X6_isIn rfl rfl rfl (by decide +kernel) ⟨Nat.le_of_ble_eq_true rfl, Nat.le_of_ble_eq_true rfl⟩ rfl (Nat.le_of_ble_eq_true rfl) dX6_end_10 (fun r2 u1 => ?_)
  refine g_if_ne C 13 18 dX6_end_13 (by decide) ?_ ?_
  · skip
    refine g_aload_n C 18 0 dX6_end_18 rfl ?_
    refine gfX_X6_reader C 19 iX6 (List.mem_cons_of_mem _ (List.mem_append_right _ wgL_1_23.1)) dX6_end_19 ?_
    refine gfX_X2_size C 22 iX2 (List.mem_cons_of_mem _ (List.mem_append_right _ wgL_6_7.1)) dX6_end_22 ?_
    refine g_istore_nV C 25 (fun v3 => [(2, .int v3), (0, .ref (ad 0)), (1, .int p1)]) dX6_end_25 (by decide) (fun _ => rfl) (fun v3 => ?_)
    refine g_aload_n C 26 1 dX6_end_26 rfl ?_
    refine gfX_X6_reader C 27 iX6 (List.mem_cons_of_mem _ (List.mem_append_right _ wgL_1_23.1)) dX6_end_27 ?_
    refine g_iload_n C 30 2 dX6_end_30 rfl ?_
    refine pfX_X2_size C 31 iX2 (List.mem_cons_of_mem _ (List.mem_append_right _ wgL_6_7.1)) dX6_end_31 (fun u4 => ?_)
    refine g_iload_n C 34 0 dX6_end_34 rfl ?_
    exact g_iret C 35 dX6_end_35
  · skip
    refine g_iconst C 16 (-1) dX6_end_16 rfl ?_
    exact g_iret C 17 dX6_end_17
def pX0_clear (F : Nat) (j : Nat) (u : St) : Option (Unit × St) :=
  vl (stf u (4 * j + 0) 0) (fun (u1 : St) => vl (stf u1 (4 * j + 1) 0) (fun (u2 : St) => vl (stf u2 (4 * j + 2) 0) (fun (u3 : St) => vl (stf u3 (4 * j + 3) 0) (fun (u4 : St) => some ((), u4)))))
set_option maxRecDepth 100000 in
set_option maxHeartbeats 4000000 in
theorem tX0_clear {l : Launch} {D : va_G} {cI cZ : ClassId} {ad : Nat → Nat} {tBURNS tFLAME_BOUNDS : Nat} {tS : Option Nat} {adK adV : Nat → Nat} (F : Nat) (j : Nat) (hj : j < 4) (u : St) : CtV l D [(cI, .int), (cZ, .boolean)] (wX ad cI cZ) (EX tBURNS tFLAME_BOUNDS tS adK adV) yX0_clear wsX0_clear ({ frames := 0, cells := 0, slots := 0, locals := 0 } : Room) [.ref (ad (1 + j))] u (pX0_clear F j u) := by
  refine ctV_of (own := RX0) (cc := cX0_clear) (n := 1) (ret := none) (by decide) rfl rfl (Nat.le_of_ble_eq_true rfl) (lv := [(0, .ref (ad (1 + j)))]) rfl (fun C => ?_)
  have iX0 : ∀ w ∈ wsX00, w ∈ wsX0_clear := fun w h => List.mem_cons_of_mem _ (List.mem_append_right _ (inlX0 w h))
  rw [pX0_clear]
  refine g_aload_n C 0 0 dX0_clear_0 rfl ?_
  refine g_iconst C 1 0 dX0_clear_1 rfl ?_
  refine pfX_X0_cases j hj C 2 iX0 (List.mem_cons_of_mem _ (List.mem_append_right _ wgL_2_23.1)) dX0_clear_2 (fun u1 => ?_)
  refine g_aload_n C 5 0 dX0_clear_5 rfl ?_
  refine g_iconst C 6 0 dX0_clear_6 rfl ?_
  refine pfX_X0_judges j hj C 7 iX0 (List.mem_cons_of_mem _ (List.mem_append_right _ wgL_3_0.1)) dX0_clear_7 (fun u2 => ?_)
  refine g_aload_n C 10 0 dX0_clear_10 rfl ?_
  refine g_iconst C 11 0 dX0_clear_11 rfl ?_
  refine pfX_X0_draughts j hj C 12 iX0 (List.mem_cons_of_mem _ (List.mem_append_right _ wgL_3_1.1)) dX0_clear_12 (fun u3 => ?_)
  refine g_aload_n C 15 0 dX0_clear_15 rfl ?_
  refine g_iconst C 16 0 dX0_clear_16 rfl ?_
  refine pfX_X0_hearings j hj C 17 iX0 (List.mem_cons_of_mem _ (List.mem_append_right _ wgL_3_2.1)) dX0_clear_17 (fun u4 => ?_)
  exact g_vret C 20 dX0_clear_20
def pX2_tokenOf (F : Nat) (p1 : Int32) (u : St) : Option (Int32 × St) :=
  jn (fun (u1 : St) => jn (fun (u2 : St) => if p1 = 59 then some (3, u2) else some (4, u2)) (fun (J28 : St → Option (Int32 × St)) => if p1 < 48 then (J28 u1) else if 57 < p1 then (J28 u1) else some (2, u1))) (fun (J14 : St → Option (Int32 × St)) => if p1 < 97 then (J14 u) else if 122 < p1 then (J14 u) else some (1, u))
set_option maxRecDepth 100000 in
set_option maxHeartbeats 4000000 in
theorem tX2_tokenOf {l : Launch} {D : va_G} {cI cZ : ClassId} {ad : Nat → Nat} {tBURNS tFLAME_BOUNDS : Nat} {tS : Option Nat} {adK adV : Nat → Nat} (F : Nat) (p1 : Int32) (u : St) : CtI l D [(cI, .int), (cZ, .boolean)] (wX ad cI cZ) (EX tBURNS tFLAME_BOUNDS tS adK adV) yX2_tokenOf wsX2_tokenOf ({ frames := 0, cells := 0, slots := 0, locals := 0 } : Room) [.int p1] u (pX2_tokenOf F p1 u) := by
  refine ctI_of (own := RX2) (cc := cX2_tokenOf) (n := 1) (ret := (some .int)) (by decide) rfl rfl (Nat.le_of_ble_eq_true rfl) (lv := [(0, .int p1)]) rfl (fun C => ?_)
  rw [pX2_tokenOf]
  refine g_iload_n C 0 0 dX2_tokenOf_0 rfl ?_
  refine g_bipush C 1 97 dX2_tokenOf_1 rfl ?_
  refine g_jn0 14 ([(0, .int p1)]) ([]) (fun u1 => ?_) (fun J14 hJ14 => ?_)
  · skip
    refine g_iload_n C 14 0 dX2_tokenOf_14 rfl ?_
    refine g_bipush C 15 48 dX2_tokenOf_15 rfl ?_
    refine g_jn0 28 ([(0, .int p1)]) ([]) (fun u2 => ?_) (fun J28 hJ28 => ?_)
    · skip
      refine g_iload_n C 28 0 dX2_tokenOf_28 rfl ?_
      refine g_bipush C 29 59 dX2_tokenOf_29 rfl ?_
      refine g_icmp_ne C 31 38 dX2_tokenOf_31 (by decide) ?_ ?_
      · skip
        refine g_iconst C 38 4 dX2_tokenOf_38 rfl ?_
        exact g_iret C 39 dX2_tokenOf_39
      · skip
        refine g_iconst C 34 3 dX2_tokenOf_34 rfl ?_
        refine g_goto C 35 39 dX2_tokenOf_35 (by decide) ?_
        exact g_iret C 39 dX2_tokenOf_39
    · skip
      refine g_icmp_lt C 17 28 dX2_tokenOf_17 (by decide) ?_ ?_
      · skip
        exact g_sub _ [0] rfl (hJ28 u1)
      · skip
        refine g_iload_n C 20 0 dX2_tokenOf_20 rfl ?_
        refine g_bipush C 21 57 dX2_tokenOf_21 rfl ?_
        refine g_icmp_gt C 23 28 dX2_tokenOf_23 (by decide) ?_ ?_
        · skip
          exact g_sub _ [0] rfl (hJ28 u1)
        · skip
          refine g_iconst C 26 2 dX2_tokenOf_26 rfl ?_
          exact g_iret C 27 dX2_tokenOf_27
  · skip
    refine g_icmp_lt C 3 14 dX2_tokenOf_3 (by decide) ?_ ?_
    · skip
      exact g_sub _ [0] rfl (hJ14 u)
    · skip
      refine g_iload_n C 6 0 dX2_tokenOf_6 rfl ?_
      refine g_bipush C 7 122 dX2_tokenOf_7 rfl ?_
      refine g_icmp_gt C 9 14 dX2_tokenOf_9 (by decide) ?_ ?_
      · skip
        exact g_sub _ [0] rfl (hJ14 u)
      · skip
        refine g_iconst C 12 1 dX2_tokenOf_12 rfl ?_
        exact g_iret C 13 dX2_tokenOf_13
def pX2_fails (F : Nat) (p1 : Int32) (u : St) : Option (Int32 × St) :=
  vl (stf u 18 p1) (fun (u1 : St) => some (0, u1))
set_option maxRecDepth 100000 in
set_option maxHeartbeats 4000000 in
theorem tX2_fails {l : Launch} {D : va_G} {cI cZ : ClassId} {ad : Nat → Nat} {tBURNS tFLAME_BOUNDS : Nat} {tS : Option Nat} {adK adV : Nat → Nat} (F : Nat) (p1 : Int32) (u : St) : CtI l D [(cI, .int), (cZ, .boolean)] (wX ad cI cZ) (EX tBURNS tFLAME_BOUNDS tS adK adV) yX2_fails wsX2_fails ({ frames := 0, cells := 0, slots := 0, locals := 0 } : Room) [.ref (ad 5), .int p1] u (pX2_fails F p1 u) := by
  refine ctI_of (own := RX2) (cc := cX2_fails) (n := 2) (ret := (some .boolean)) (by decide) rfl rfl (Nat.le_of_ble_eq_true rfl) (lv := [(0, .ref (ad 5)), (1, .int p1)]) rfl (fun C => ?_)
  have iX2 : ∀ w ∈ wsX20, w ∈ wsX2_fails := fun w h => List.mem_cons_of_mem _ (List.mem_append_right _ (inlX2 w h))
  rw [pX2_fails]
  refine g_aload_n C 0 0 dX2_fails_0 rfl ?_
  refine g_iload_n C 1 1 dX2_fails_1 rfl ?_
  refine pfX_X2_wrong C 2 iX2 (List.mem_cons_of_mem _ (List.mem_append_right _ wgL_3_23.1)) dX2_fails_2 (fun u1 => ?_)
  refine g_iconst C 5 0 dX2_fails_5 rfl ?_
  exact g_nret C 6 rfl dX2_fails_6
def bX2_figuresRead_7 (F : Nat)  (self5 : Int32 → Int32 → St → Option (Int32 × St)) (x2 : Int32) (x3 : Int32) (u4 : St) : Option (Int32 × St) :=
  if (u4.1 22) ≤ x3 then some (x2, u4) else gd (inb x3 160) (vl (((10 * x2) + (u4.2 54 (Int32.toNatClampNeg x3))) - 48) (fun v6 => (self5 v6 (x3 + 1) u4)))
def pX2_figuresRead (F : Nat)  (u : St) : Option (Int32 × St) :=
  vl (u.1 21) (fun v1 => (lq2 (bX2_figuresRead_7 F) F 0 v1 u))
set_option maxRecDepth 100000 in
set_option maxHeartbeats 4000000 in
theorem tX2_figuresRead {l : Launch} {D : va_G} {cI cZ : ClassId} {ad : Nat → Nat} {tBURNS tFLAME_BOUNDS : Nat} {tS : Option Nat} {adK adV : Nat → Nat} (F : Nat)  (u : St) : CtI l D [(cI, .int), (cZ, .boolean)] (wX ad cI cZ) (EX tBURNS tFLAME_BOUNDS tS adK adV) yX2_figuresRead wsX2_figuresRead ({ frames := 0, cells := 0, slots := 0, locals := 0 } : Room) [.ref (ad 5)] u (pX2_figuresRead F u) := by
  refine ctI_of (own := RX2) (cc := cX2_figuresRead) (n := 3) (ret := (some .int)) (by decide) rfl rfl (Nat.le_of_ble_eq_true rfl) (lv := [(0, .ref (ad 5))]) rfl (fun C => ?_)
  have iX2 : ∀ w ∈ wsX20, w ∈ wsX2_figuresRead := fun w h => List.mem_cons_of_mem _ (List.mem_append_right _ (inlX2 w h))
  rw [pX2_figuresRead]
  refine g_iconst C 0 0 dX2_figuresRead_0 rfl ?_
  refine g_istore_n C 1 [(1, .int 0), (0, .ref (ad 5))] dX2_figuresRead_1 (by decide) rfl ?_
  refine g_aload_n C 2 1 dX2_figuresRead_2 rfl ?_
  refine gfX_X2_from C 3 iX2 (List.mem_cons_of_mem _ (List.mem_append_right _ wgL_4_2.1)) dX2_figuresRead_3 ?_
  refine g_istore_nV C 6 (fun v1 => [(2, .int v1), (1, .int 0), (0, .ref (ad 5))]) dX2_figuresRead_6 (by decide) (fun _ => rfl) (fun v1 => ?_)
  refine g_sub _ [2, 1, 0] rfl ?_
  refine g_lq2 (fun (x2 : Int32) (x3 : Int32) => [(0, .ref (ad 5)), (1, .int x2), (2, .int x3)]) (fun self5 hself5 x2 x3 u4 => ?_) F 0 v1 u
  rw [bX2_figuresRead_7]
  refine g_iload_n C 7 2 dX2_figuresRead_7 rfl ?_
  refine g_aload_n C 8 0 dX2_figuresRead_8 rfl ?_
  refine gfX_X2_behind C 9 iX2 (List.mem_cons_of_mem _ (List.mem_append_right _ wgL_4_3.1)) dX2_figuresRead_9 ?_
  refine g_icmp_ge C 12 36 dX2_figuresRead_12 (by decide) ?_ ?_
  · skip
    refine g_iload_n C 36 1 dX2_figuresRead_36 rfl ?_
    exact g_iret C 37 dX2_figuresRead_37
  · skip
    refine g_bipush C 15 10 dX2_figuresRead_15 rfl ?_
    refine g_iload_n C 17 1 dX2_figuresRead_17 rfl ?_
    refine g_imul C 18 dX2_figuresRead_18 ?_
    refine g_aload_n C 19 0 dX2_figuresRead_19 rfl ?_
    refine gfX_X2_tape C 20 iX2 (List.mem_cons_of_mem _ (List.mem_append_right _ wgL_3_19.1)) dX2_figuresRead_20 ?_
    refine g_iload_n C 23 2 dX2_figuresRead_23 rfl ?_
    refine g_iald C 24 (10 + 54) 0 (wX_arr 54 (by decide)) rfl dX2_figuresRead_24 ?_
    refine g_iadd C 25 dX2_figuresRead_25 ?_
    refine g_bipush C 26 48 dX2_figuresRead_26 rfl ?_
    refine g_isub C 28 dX2_figuresRead_28 ?_
    refine g_istore_nV C 29 (fun v6 => [(1, .int v6), (0, .ref (ad 5)), (2, .int x3)]) dX2_figuresRead_29 (by decide) (fun _ => rfl) (fun v6 => ?_)
    refine g_iinc C 30 2 [(2, .int (x3 + 1)), (1, .int v6), (0, .ref (ad 5))] dX2_figuresRead_30 rfl rfl (by decide) rfl ?_
    refine g_goto C 33 7 dX2_figuresRead_33 (by decide) ?_
    exact g_sub _ [2, 1, 0] rfl (hself5 v6 (x3 + 1) u4)
def jX2_readsNext_141 (F : Nat)   (u7 : St) : Option (Int32 × St) :=
  jn (fun (u8 : St) => bd (pX2_fails F 1 u8) (fun (r10 : Int32) (u9 : St) => gd (z01 r10) (some (r10, u9)))) (fun (J170 : St → Option (Int32 × St)) => if (u7.1 20) = 4 then (J170 u7) else jn (fun (u11 : St) => jn (fun (a12 : Int32) (u13 : St) => vl (stf u13 23 a12) (fun (u14 : St) => some (1, u14))) (fun (J194 : Int32 → St → Option (Int32 × St)) => if (u11.1 20) = 2 then bd (pX2_figuresRead F u11) (fun (r16 : Int32) (u15 : St) => (J194 r16 u15)) else (J194 (-4) u11))) (fun (J176 : St → Option (Int32 × St)) => if (u7.1 20) = 2 then if ((u7.1 22) - (u7.1 21)) ≤ 2 then (J176 u7) else (J170 u7) else (J176 u7)))
def bX2_readsNext_90 (F : Nat) (J141 : St → Option (Int32 × St)) (self18 : St → Option (Int32 × St))  (u17 : St) : Option (Int32 × St) :=
  if (u17.1 17) ≤ (u17.1 22) then (J141 u17) else if (u17.1 20) = 3 then (J141 u17) else gd (inb (u17.1 22) 160) (bd (pX2_tokenOf F (u17.2 54 (Int32.toNatClampNeg (u17.1 22))) u17) (fun (r20 : Int32) (u19 : St) => if r20 = (u19.1 20) then vl (stf u19 22 ((u19.1 22) + 1)) (fun (u21 : St) => (self18 u21)) else (J141 u19)))
def jX2_readsNext_38 (F : Nat)   (u1 : St) : Option (Int32 × St) :=
  vl (stf u1 21 (u1.1 22)) (fun (u2 : St) => if (u2.1 21) < (u2.1 17) then gd (inb (u2.1 21) 160) (bd (pX2_tokenOf F (u2.2 54 (Int32.toNatClampNeg (u2.1 21))) u2) (fun (r4 : Int32) (u3 : St) => vl (stf u3 20 r4) (fun (u5 : St) => vl (stf u5 22 ((u5.1 22) + 1)) (fun (u6 : St) => jn (jX2_readsNext_141 F) (fun (J141 : St → Option (Int32 × St)) => (lp0 (bX2_readsNext_90 F J141) F u6)))))) else vl (stf u2 20 0) (fun (u22 : St) => some (1, u22)))
def bX2_readsNext_0 (F : Nat) (J38 : St → Option (Int32 × St)) (self24 : St → Option (Int32 × St))  (u23 : St) : Option (Int32 × St) :=
  if (u23.1 17) ≤ (u23.1 22) then (J38 u23) else gd (inb (u23.1 22) 160) (if (u23.2 54 (Int32.toNatClampNeg (u23.1 22))) = 32 then vl (stf u23 22 ((u23.1 22) + 1)) (fun (u25 : St) => (self24 u25)) else (J38 u23))
def pX2_readsNext (F : Nat)  (u : St) : Option (Int32 × St) :=
  jn (jX2_readsNext_38 F) (fun (J38 : St → Option (Int32 × St)) => (lp0 (bX2_readsNext_0 F J38) F u))
set_option maxRecDepth 100000 in
set_option maxHeartbeats 4000000 in
theorem tX2_readsNext {l : Launch} {D : va_G} {cI cZ : ClassId} {ad : Nat → Nat} {tBURNS tFLAME_BOUNDS : Nat} {tS : Option Nat} {adK adV : Nat → Nat} (F : Nat)  (u : St) : CtI l D [(cI, .int), (cZ, .boolean)] (wX ad cI cZ) (EX tBURNS tFLAME_BOUNDS tS adK adV) yX2_readsNext wsX2_readsNext ({ frames := 1, cells := 0, slots := 0, locals := 22 } : Room) [.ref (ad 5)] u (pX2_readsNext F u) := by
  refine ctI_of (own := RX2) (cc := cX2_readsNext) (n := 1) (ret := (some .boolean)) (by decide) rfl rfl (Nat.le_of_ble_eq_true rfl) (lv := [(0, .ref (ad 5))]) rfl (fun C => ?_)
  have iX2 : ∀ w ∈ wsX20, w ∈ wsX2_readsNext := fun w h => List.mem_cons_of_mem _ (List.mem_append_right _ (inlX2 w h))
  rw [pX2_readsNext]
  refine g_jn0 38 ([(0, .ref (ad 5))]) ([]) (fun u1 => ?_) (fun J38 hJ38 => ?_)
  · skip
    rw [jX2_readsNext_38]
    refine g_aload_n C 38 0 dX2_readsNext_38 rfl ?_
    refine g_aload_n C 39 0 dX2_readsNext_39 rfl ?_
    refine gfX_X2_behind C 40 iX2 (List.mem_cons_of_mem _ (List.mem_append_right _ wgL_4_3.1)) dX2_readsNext_40 ?_
    refine pfX_X2_from C 43 iX2 (List.mem_cons_of_mem _ (List.mem_append_right _ wgL_4_2.1)) dX2_readsNext_43 (fun u2 => ?_)
    refine g_aload_n C 46 0 dX2_readsNext_46 rfl ?_
    refine gfX_X2_from C 47 iX2 (List.mem_cons_of_mem _ (List.mem_append_right _ wgL_4_2.1)) dX2_readsNext_47 ?_
    refine g_aload_n C 50 0 dX2_readsNext_50 rfl ?_
    refine gfX_X2_size C 51 iX2 (List.mem_cons_of_mem _ (List.mem_append_right _ wgL_3_22.1)) dX2_readsNext_51 ?_
    refine g_icmp_lt C 54 64 dX2_readsNext_54 (by decide) ?_ ?_
    · skip
      refine g_aload_n C 64 0 dX2_readsNext_64 rfl ?_
      refine g_aload_n C 65 0 dX2_readsNext_65 rfl ?_
      refine gfX_X2_tape C 66 iX2 (List.mem_cons_of_mem _ (List.mem_append_right _ wgL_3_19.1)) dX2_readsNext_66 ?_
      refine g_aload_n C 69 0 dX2_readsNext_69 rfl ?_
      refine gfX_X2_from C 70 iX2 (List.mem_cons_of_mem _ (List.mem_append_right _ wgL_4_2.1)) dX2_readsNext_70 ?_
      refine g_iald C 73 (10 + 54) 0 (wX_arr 54 (by decide)) rfl dX2_readsNext_73 ?_
      refine g_callSi (st := [.ref (ad 5)]) (As := [.int (u2.2 54 (Int32.toNatClampNeg (u2.1 21)))]) C EX_ok EX_vm 74 1 (tX2_tokenOf F (u2.2 54 (Int32.toNatClampNeg (u2.1 21))) u2) rfl gX2_readsNext_X2_tokenOf rfl rfl rfl (by decide +kernel) ⟨Nat.le_of_ble_eq_true rfl, Nat.le_of_ble_eq_true rfl⟩ rfl (Nat.le_of_ble_eq_true rfl) dX2_readsNext_74 (fun r4 u3 => ?_)
      refine pfX_X2_token C 77 iX2 (List.mem_cons_of_mem _ (List.mem_append_right _ wgL_4_1.1)) dX2_readsNext_77 (fun u5 => ?_)
      refine g_aload_n C 80 0 dX2_readsNext_80 rfl ?_
      refine g_dup C 81 dX2_readsNext_81 rfl ?_
      refine gfX_X2_behind C 82 iX2 (List.mem_cons_of_mem _ (List.mem_append_right _ wgL_4_3.1)) dX2_readsNext_82 ?_
      refine g_iconst C 85 1 dX2_readsNext_85 rfl ?_
      refine g_iadd C 86 dX2_readsNext_86 ?_
      refine pfX_X2_behind C 87 iX2 (List.mem_cons_of_mem _ (List.mem_append_right _ wgL_4_3.1)) dX2_readsNext_87 (fun u6 => ?_)
      refine g_jn0 141 ([(0, .ref (ad 5))]) ([]) (fun u7 => ?_) (fun J141 hJ141 => ?_)
      · skip
        rw [jX2_readsNext_141]
        refine g_aload_n C 141 0 dX2_readsNext_141 rfl ?_
        refine gfX_X2_token C 142 iX2 (List.mem_cons_of_mem _ (List.mem_append_right _ wgL_4_1.1)) dX2_readsNext_142 ?_
        refine g_iconst C 145 4 dX2_readsNext_145 rfl ?_
        refine g_jn0 170 ([(0, .ref (ad 5))]) ([]) (fun u8 => ?_) (fun J170 hJ170 => ?_)
        · skip
          refine g_aload_n C 170 0 dX2_readsNext_170 rfl ?_
          refine g_iconst C 171 1 dX2_readsNext_171 rfl ?_
          refine g_callVi (st := []) (As := [.int 1]) C EX_ok EX_vm 172 5 1 (tX2_fails F 1 u8) rfl gX2_readsNext_X2_fails rfl rfl rfl (by decide +kernel) ⟨Nat.le_of_ble_eq_true rfl, Nat.le_of_ble_eq_true rfl⟩ rfl rfl rfl (Nat.le_of_ble_eq_true rfl) dX2_readsNext_172 (fun r10 u9 => ?_)
          exact g_zret C 175 dX2_readsNext_175
        · skip
          refine g_icmp_eq C 146 170 dX2_readsNext_146 (by decide) ?_ ?_
          · skip
            exact g_sub _ [0] rfl (hJ170 u7)
          · skip
            refine g_aload_n C 149 0 dX2_readsNext_149 rfl ?_
            refine gfX_X2_token C 150 iX2 (List.mem_cons_of_mem _ (List.mem_append_right _ wgL_4_1.1)) dX2_readsNext_150 ?_
            refine g_iconst C 153 2 dX2_readsNext_153 rfl ?_
            refine g_jn0 176 ([(0, .ref (ad 5))]) ([]) (fun u11 => ?_) (fun J176 hJ176 => ?_)
            · skip
              refine g_aload_n C 176 0 dX2_readsNext_176 rfl ?_
              refine g_aload_n C 177 0 dX2_readsNext_177 rfl ?_
              refine gfX_X2_token C 178 iX2 (List.mem_cons_of_mem _ (List.mem_append_right _ wgL_4_1.1)) dX2_readsNext_178 ?_
              refine g_iconst C 181 2 dX2_readsNext_181 rfl ?_
              refine g_jn1 194 (fun (a12 : Int32) => []) (fun (a12 : Int32) => [.int a12, .ref (ad 5)]) (fun a12 u13 => ?_) (fun J194 hJ194 => ?_)
              · skip
                refine pfX_X2_number C 194 iX2 (List.mem_cons_of_mem _ (List.mem_append_right _ wgL_4_4.1)) dX2_readsNext_194 (fun u14 => ?_)
                refine g_iconst C 197 1 dX2_readsNext_197 rfl ?_
                exact g_nret C 198 rfl dX2_readsNext_198
              · skip
                refine g_icmp_ne C 182 192 dX2_readsNext_182 (by decide) ?_ ?_
                · skip
                  refine g_bipush C 192 (-4) dX2_readsNext_192 rfl ?_
                  exact g_sub _ [] rfl (hJ194 (-4) u11)
                · skip
                  refine g_aload_n C 185 0 dX2_readsNext_185 rfl ?_
                  refine g_callVi (st := [.ref (ad 5)]) (As := []) C EX_ok EX_vm 186 5 0 (tX2_figuresRead F u11) rfl gX2_readsNext_X2_figuresRead rfl rfl rfl (by decide +kernel) ⟨Nat.le_of_ble_eq_true rfl, Nat.le_of_ble_eq_true rfl⟩ rfl rfl rfl (Nat.le_of_ble_eq_true rfl) dX2_readsNext_186 (fun r16 u15 => ?_)
                  refine g_goto C 189 194 dX2_readsNext_189 (by decide) ?_
                  exact g_sub _ [] rfl (hJ194 r16 u15)
            · skip
              refine g_icmp_ne C 154 176 dX2_readsNext_154 (by decide) ?_ ?_
              · skip
                exact g_sub _ [0] rfl (hJ176 u7)
              · skip
                refine g_aload_n C 157 0 dX2_readsNext_157 rfl ?_
                refine gfX_X2_behind C 158 iX2 (List.mem_cons_of_mem _ (List.mem_append_right _ wgL_4_3.1)) dX2_readsNext_158 ?_
                refine g_aload_n C 161 0 dX2_readsNext_161 rfl ?_
                refine gfX_X2_from C 162 iX2 (List.mem_cons_of_mem _ (List.mem_append_right _ wgL_4_2.1)) dX2_readsNext_162 ?_
                refine g_isub C 165 dX2_readsNext_165 ?_
                refine g_iconst C 166 2 dX2_readsNext_166 rfl ?_
                refine g_icmp_le C 167 176 dX2_readsNext_167 (by decide) ?_ ?_
                · skip
                  exact g_sub _ [0] rfl (hJ176 u7)
                · skip
                  exact g_sub _ [0] rfl (hJ170 u7)
      · skip
        refine g_sub _ [0] rfl ?_
        refine g_lp0 (fun self18 hself18 u17 => ?_) F u6
        rw [bX2_readsNext_90]
        refine g_aload_n C 90 0 dX2_readsNext_90 rfl ?_
        refine gfX_X2_behind C 91 iX2 (List.mem_cons_of_mem _ (List.mem_append_right _ wgL_4_3.1)) dX2_readsNext_91 ?_
        refine g_aload_n C 94 0 dX2_readsNext_94 rfl ?_
        refine gfX_X2_size C 95 iX2 (List.mem_cons_of_mem _ (List.mem_append_right _ wgL_3_22.1)) dX2_readsNext_95 ?_
        refine g_icmp_ge C 98 141 dX2_readsNext_98 (by decide) ?_ ?_
        · skip
          exact g_sub _ [0] rfl (hJ141 u17)
        · skip
          refine g_aload_n C 101 0 dX2_readsNext_101 rfl ?_
          refine gfX_X2_token C 102 iX2 (List.mem_cons_of_mem _ (List.mem_append_right _ wgL_4_1.1)) dX2_readsNext_102 ?_
          refine g_iconst C 105 3 dX2_readsNext_105 rfl ?_
          refine g_icmp_eq C 106 141 dX2_readsNext_106 (by decide) ?_ ?_
          · skip
            exact g_sub _ [0] rfl (hJ141 u17)
          · skip
            refine g_aload_n C 109 0 dX2_readsNext_109 rfl ?_
            refine gfX_X2_tape C 110 iX2 (List.mem_cons_of_mem _ (List.mem_append_right _ wgL_3_19.1)) dX2_readsNext_110 ?_
            refine g_aload_n C 113 0 dX2_readsNext_113 rfl ?_
            refine gfX_X2_behind C 114 iX2 (List.mem_cons_of_mem _ (List.mem_append_right _ wgL_4_3.1)) dX2_readsNext_114 ?_
            refine g_iald C 117 (10 + 54) 0 (wX_arr 54 (by decide)) rfl dX2_readsNext_117 ?_
            refine g_callSi (st := []) (As := [.int (u17.2 54 (Int32.toNatClampNeg (u17.1 22)))]) C EX_ok EX_vm 118 1 (tX2_tokenOf F (u17.2 54 (Int32.toNatClampNeg (u17.1 22))) u17) rfl gX2_readsNext_X2_tokenOf rfl rfl rfl (by decide +kernel) ⟨Nat.le_of_ble_eq_true rfl, Nat.le_of_ble_eq_true rfl⟩ rfl (Nat.le_of_ble_eq_true rfl) dX2_readsNext_118 (fun r20 u19 => ?_)
            refine g_aload_n C 121 0 dX2_readsNext_121 rfl ?_
            refine gfX_X2_token C 122 iX2 (List.mem_cons_of_mem _ (List.mem_append_right _ wgL_4_1.1)) dX2_readsNext_122 ?_
            refine g_icmp_ne C 125 141 dX2_readsNext_125 (by decide) ?_ ?_
            · skip
              exact g_sub _ [0] rfl (hJ141 u19)
            · skip
              refine g_aload_n C 128 0 dX2_readsNext_128 rfl ?_
              refine g_dup C 129 dX2_readsNext_129 rfl ?_
              refine gfX_X2_behind C 130 iX2 (List.mem_cons_of_mem _ (List.mem_append_right _ wgL_4_3.1)) dX2_readsNext_130 ?_
              refine g_iconst C 133 1 dX2_readsNext_133 rfl ?_
              refine g_iadd C 134 dX2_readsNext_134 ?_
              refine pfX_X2_behind C 135 iX2 (List.mem_cons_of_mem _ (List.mem_append_right _ wgL_4_3.1)) dX2_readsNext_135 (fun u21 => ?_)
              refine g_goto C 138 90 dX2_readsNext_138 (by decide) ?_
              exact g_sub _ [0] rfl (hself18 u21)
    · skip
      refine g_aload_n C 57 0 dX2_readsNext_57 rfl ?_
      refine g_iconst C 58 0 dX2_readsNext_58 rfl ?_
      refine pfX_X2_token C 59 iX2 (List.mem_cons_of_mem _ (List.mem_append_right _ wgL_4_1.1)) dX2_readsNext_59 (fun u22 => ?_)
      refine g_iconst C 62 1 dX2_readsNext_62 rfl ?_
      exact g_nret C 63 rfl dX2_readsNext_63
  · skip
    refine g_sub _ [0] rfl ?_
    refine g_lp0 (fun self24 hself24 u23 => ?_) F u
    rw [bX2_readsNext_0]
    refine g_aload_n C 0 0 dX2_readsNext_0 rfl ?_
    refine gfX_X2_behind C 1 iX2 (List.mem_cons_of_mem _ (List.mem_append_right _ wgL_4_3.1)) dX2_readsNext_1 ?_
    refine g_aload_n C 4 0 dX2_readsNext_4 rfl ?_
    refine gfX_X2_size C 5 iX2 (List.mem_cons_of_mem _ (List.mem_append_right _ wgL_3_22.1)) dX2_readsNext_5 ?_
    refine g_icmp_ge C 8 38 dX2_readsNext_8 (by decide) ?_ ?_
    · skip
      exact g_sub _ [0] rfl (hJ38 u23)
    · skip
      refine g_aload_n C 11 0 dX2_readsNext_11 rfl ?_
      refine gfX_X2_tape C 12 iX2 (List.mem_cons_of_mem _ (List.mem_append_right _ wgL_3_19.1)) dX2_readsNext_12 ?_
      refine g_aload_n C 15 0 dX2_readsNext_15 rfl ?_
      refine gfX_X2_behind C 16 iX2 (List.mem_cons_of_mem _ (List.mem_append_right _ wgL_4_3.1)) dX2_readsNext_16 ?_
      refine g_iald C 19 (10 + 54) 0 (wX_arr 54 (by decide)) rfl dX2_readsNext_19 ?_
      refine g_bipush C 20 32 dX2_readsNext_20 rfl ?_
      refine g_icmp_ne C 22 38 dX2_readsNext_22 (by decide) ?_ ?_
      · skip
        exact g_sub _ [0] rfl (hJ38 u23)
      · skip
        refine g_aload_n C 25 0 dX2_readsNext_25 rfl ?_
        refine g_dup C 26 dX2_readsNext_26 rfl ?_
        refine gfX_X2_behind C 27 iX2 (List.mem_cons_of_mem _ (List.mem_append_right _ wgL_4_3.1)) dX2_readsNext_27 ?_
        refine g_iconst C 30 1 dX2_readsNext_30 rfl ?_
        refine g_iadd C 31 dX2_readsNext_31 ?_
        refine pfX_X2_behind C 32 iX2 (List.mem_cons_of_mem _ (List.mem_append_right _ wgL_4_3.1)) dX2_readsNext_32 (fun u25 => ?_)
        refine g_goto C 35 0 dX2_readsNext_35 (by decide) ?_
        exact g_sub _ [0] rfl (hself24 u25)
def pX2_begins (F : Nat)  (u : St) : Option (Int32 × St) :=
  bd (pX0_clear F 3 u) (fun (_ : Unit) (u1 : St) => gd (z01 0) (vl (stf u1 19 0) (fun (u2 : St) => vl (stf u2 18 0) (fun (u3 : St) => vl (stf u3 22 0) (fun (u4 : St) => bd (pX2_readsNext F u4) (fun (r6 : Int32) (u5 : St) => gd (z01 r6) (some (r6, u5))))))))
set_option maxRecDepth 100000 in
set_option maxHeartbeats 4000000 in
theorem tX2_begins {l : Launch} {D : va_G} {cI cZ : ClassId} {ad : Nat → Nat} {tBURNS tFLAME_BOUNDS : Nat} {tS : Option Nat} {adK adV : Nat → Nat} (F : Nat)  (u : St) : CtI l D [(cI, .int), (cZ, .boolean)] (wX ad cI cZ) (EX tBURNS tFLAME_BOUNDS tS adK adV) yX2_begins wsX2_begins ({ frames := 2, cells := 0, slots := 0, locals := 42 } : Room) [.ref (ad 5)] u (pX2_begins F u) := by
  refine ctI_of (own := RX2) (cc := cX2_begins) (n := 1) (ret := (some .boolean)) (by decide) rfl rfl (Nat.le_of_ble_eq_true rfl) (lv := [(0, .ref (ad 5))]) rfl (fun C => ?_)
  have iX2 : ∀ w ∈ wsX20, w ∈ wsX2_begins := fun w h => List.mem_cons_of_mem _ (List.mem_append_right _ (inlX2 w h))
  rw [pX2_begins]
  refine g_aload_n C 0 0 dX2_begins_0 rfl ?_
  refine gfX_X2_told C 1 iX2 (List.mem_cons_of_mem _ (List.mem_append_right _ wgL_3_21.1)) dX2_begins_1 ?_
  refine g_callVv (st := []) (As := []) C EX_ok EX_vm 4 4 0 (tX0_clear F 3 (by decide) u) rfl gX2_begins_X0_clear rfl rfl rfl (by decide +kernel) ⟨Nat.le_of_ble_eq_true rfl, Nat.le_of_ble_eq_true rfl⟩ (wX_X0 ad cI cZ _ 3 (by decide)) rfl rfl (Nat.le_of_ble_eq_true rfl) dX2_begins_4 (fun u1 => ?_)
  refine g_aload_n C 7 0 dX2_begins_7 rfl ?_
  refine g_iconst C 8 0 dX2_begins_8 rfl ?_
  refine pfX_X2_docketTold C 9 iX2 (List.mem_cons_of_mem _ (List.mem_append_right _ wgL_4_0.1)) dX2_begins_9 (fun u2 => ?_)
  refine g_aload_n C 12 0 dX2_begins_12 rfl ?_
  refine g_iconst C 13 0 dX2_begins_13 rfl ?_
  refine pfX_X2_wrong C 14 iX2 (List.mem_cons_of_mem _ (List.mem_append_right _ wgL_3_23.1)) dX2_begins_14 (fun u3 => ?_)
  refine g_aload_n C 17 0 dX2_begins_17 rfl ?_
  refine g_iconst C 18 0 dX2_begins_18 rfl ?_
  refine pfX_X2_behind C 19 iX2 (List.mem_cons_of_mem _ (List.mem_append_right _ wgL_4_3.1)) dX2_begins_19 (fun u4 => ?_)
  refine g_aload_n C 22 0 dX2_begins_22 rfl ?_
  refine g_callVi (st := []) (As := []) C EX_ok EX_vm 23 5 0 (tX2_readsNext F u4) rfl gX2_begins_X2_readsNext rfl rfl rfl (by decide +kernel) ⟨Nat.le_of_ble_eq_true rfl, Nat.le_of_ble_eq_true rfl⟩ rfl rfl rfl (Nat.le_of_ble_eq_true rfl) dX2_begins_23 (fun r6 u5 => ?_)
  exact g_zret C 26 dX2_begins_26
def pX2_isAtEnd (F : Nat)  (u : St) : Option (Int32 × St) :=
  if (u.1 20) = 0 then some (1, u) else some (0, u)
set_option maxRecDepth 100000 in
set_option maxHeartbeats 4000000 in
theorem tX2_isAtEnd {l : Launch} {D : va_G} {cI cZ : ClassId} {ad : Nat → Nat} {tBURNS tFLAME_BOUNDS : Nat} {tS : Option Nat} {adK adV : Nat → Nat} (F : Nat)  (u : St) : CtI l D [(cI, .int), (cZ, .boolean)] (wX ad cI cZ) (EX tBURNS tFLAME_BOUNDS tS adK adV) yX2_isAtEnd wsX2_isAtEnd ({ frames := 0, cells := 0, slots := 0, locals := 0 } : Room) [.ref (ad 5)] u (pX2_isAtEnd F u) := by
  refine ctI_of (own := RX2) (cc := cX2_isAtEnd) (n := 1) (ret := (some .boolean)) (by decide) rfl rfl (Nat.le_of_ble_eq_true rfl) (lv := [(0, .ref (ad 5))]) rfl (fun C => ?_)
  have iX2 : ∀ w ∈ wsX20, w ∈ wsX2_isAtEnd := fun w h => List.mem_cons_of_mem _ (List.mem_append_right _ (inlX2 w h))
  rw [pX2_isAtEnd]
  refine g_aload_n C 0 0 dX2_isAtEnd_0 rfl ?_
  refine gfX_X2_token C 1 iX2 (List.mem_cons_of_mem _ (List.mem_append_right _ wgL_4_1.1)) dX2_isAtEnd_1 ?_
  refine g_if_ne C 4 11 dX2_isAtEnd_4 (by decide) ?_ ?_
  · skip
    refine g_iconst C 11 0 dX2_isAtEnd_11 rfl ?_
    exact g_nret C 12 rfl dX2_isAtEnd_12
  · skip
    refine g_iconst C 7 1 dX2_isAtEnd_7 rfl ?_
    refine g_goto C 8 12 dX2_isAtEnd_8 (by decide) ?_
    exact g_nret C 12 rfl dX2_isAtEnd_12
def pJ0_coder_7d493 (F : Nat) (i : Nat) (u : St) : Option (Int32 × St) :=
  some (0, u)
set_option maxRecDepth 100000 in
set_option maxHeartbeats 4000000 in
theorem tJ0_coder_7d493 {l : Launch} {D : va_G} {cI cZ : ClassId} {ad : Nat → Nat} {tBURNS tFLAME_BOUNDS : Nat} {tS : Option Nat} {adK adV : Nat → Nat} (F : Nat) (i : Nat) (hi : i < 11) (u : St) : CtI l D [(cI, .int), (cZ, .boolean)] (wX ad cI cZ) (EX tBURNS tFLAME_BOUNDS tS adK adV) yJ0_coder_7d493 wsJ0_coder_7d493 ({ frames := 0, cells := 0, slots := 0, locals := 0 } : Room) [.ref (adK i)] u (pJ0_coder_7d493 F i u) := by
  refine ctI_of (own := RJ0) (cc := cJ0_coder_7d493) (n := 1) (ret := (some .byte)) (by decide) rfl rfl (Nat.le_of_ble_eq_true rfl) (lv := [(0, .ref (adK i))]) rfl (fun C => ?_)
  rw [pJ0_coder_7d493]
  refine g_gets C 0 (EX_zc C.2.2.2.2.2.2.2.2.1) (by decide +kernel) dJ0_coder_7d493_0 ?_
  refine g_if_eq (o := none) C 3 13 dJ0_coder_7d493_3 (by decide) g_none ?_
  refine g_aload_n C 6 0 dJ0_coder_7d493_6 rfl ?_
  refine g_kcod C 7 i hi (EX_k C.2.2.2.2.2.2.2.2.1) (by decide +kernel) dJ0_coder_7d493_7 ?_
  refine g_goto C 10 14 dJ0_coder_7d493_10 (by decide) ?_
  exact g_nret C 14 rfl dJ0_coder_7d493_14
def pJ0_length_8abf5 (F : Nat) (i : Nat) (u : St) : Option (Int32 × St) :=
  bd (pJ0_coder_7d493 F i u) (fun (r2 : Int32) (u1 : St) => some (((Int32.ofNat (lenS.getD i 0)) >>> (r2 &&& 31)), u1))
set_option maxRecDepth 100000 in
set_option maxHeartbeats 4000000 in
theorem tJ0_length_8abf5 {l : Launch} {D : va_G} {cI cZ : ClassId} {ad : Nat → Nat} {tBURNS tFLAME_BOUNDS : Nat} {tS : Option Nat} {adK adV : Nat → Nat} (F : Nat) (i : Nat) (hi : i < 11) (u : St) : CtI l D [(cI, .int), (cZ, .boolean)] (wX ad cI cZ) (EX tBURNS tFLAME_BOUNDS tS adK adV) yJ0_length_8abf5 wsJ0_length_8abf5 ({ frames := 1, cells := 0, slots := 0, locals := 20 } : Room) [.ref (adK i)] u (pJ0_length_8abf5 F i u) := by
  refine ctI_of (own := RJ0) (cc := cJ0_length_8abf5) (n := 1) (ret := (some .int)) (by decide) rfl rfl (Nat.le_of_ble_eq_true rfl) (lv := [(0, .ref (adK i))]) rfl (fun C => ?_)
  rw [pJ0_length_8abf5]
  refine g_aload_n C 0 0 dJ0_length_8abf5_0 rfl ?_
  refine g_kval C 1 i hi (EX_k C.2.2.2.2.2.2.2.2.1) (by decide +kernel) dJ0_length_8abf5_1 ?_
  refine g_klen C 4 i hi (EX_k C.2.2.2.2.2.2.2.2.1) dJ0_length_8abf5_4 ?_
  refine g_aload_n C 5 0 dJ0_length_8abf5_5 rfl ?_
  refine g_callKi (st := [.int (Int32.ofNat (lenS.getD i 0))]) (As := []) C EX_ok EX_vm 6 i 0 hi (EX_k C.2.2.2.2.2.2.2.2.1) (tJ0_coder_7d493 F i hi u) rfl gJ0_length_8abf5_J0_coder_7d493 rfl rfl rfl (by decide +kernel) ⟨Nat.le_of_ble_eq_true rfl, Nat.le_of_ble_eq_true rfl⟩ rfl (Nat.le_of_ble_eq_true rfl) dJ0_length_8abf5_6 (fun r2 u1 => ?_)
  refine g_ishr C 9 dJ0_length_8abf5_9 ?_
  exact g_iret C 10 dJ0_length_8abf5_10
def pJ0_isLatin1_aae02 (F : Nat) (i : Nat) (u : St) : Option (Int32 × St) :=
  some (1, u)
set_option maxRecDepth 100000 in
set_option maxHeartbeats 4000000 in
theorem tJ0_isLatin1_aae02 {l : Launch} {D : va_G} {cI cZ : ClassId} {ad : Nat → Nat} {tBURNS tFLAME_BOUNDS : Nat} {tS : Option Nat} {adK adV : Nat → Nat} (F : Nat) (i : Nat) (hi : i < 11) (u : St) : CtI l D [(cI, .int), (cZ, .boolean)] (wX ad cI cZ) (EX tBURNS tFLAME_BOUNDS tS adK adV) yJ0_isLatin1_aae02 wsJ0_isLatin1_aae02 ({ frames := 0, cells := 0, slots := 0, locals := 0 } : Room) [.ref (adK i)] u (pJ0_isLatin1_aae02 F i u) := by
  refine ctI_of (own := RJ0) (cc := cJ0_isLatin1_aae02) (n := 1) (ret := (some .boolean)) (by decide) rfl rfl (Nat.le_of_ble_eq_true rfl) (lv := [(0, .ref (adK i))]) rfl (fun C => ?_)
  rw [pJ0_isLatin1_aae02]
  refine g_gets C 0 (EX_zc C.2.2.2.2.2.2.2.2.1) (by decide +kernel) dJ0_isLatin1_aae02_0 ?_
  refine g_if_eq (o := none) C 3 17 dJ0_isLatin1_aae02_3 (by decide) g_none ?_
  refine g_aload_n C 6 0 dJ0_isLatin1_aae02_6 rfl ?_
  refine g_kcod C 7 i hi (EX_k C.2.2.2.2.2.2.2.2.1) (by decide +kernel) dJ0_isLatin1_aae02_7 ?_
  refine g_if_ne (o := none) C 10 17 dJ0_isLatin1_aae02_10 (by decide) g_none ?_
  refine g_iconst C 13 1 dJ0_isLatin1_aae02_13 rfl ?_
  refine g_goto C 14 18 dJ0_isLatin1_aae02_14 (by decide) ?_
  exact g_nret C 18 rfl dJ0_isLatin1_aae02_18
def pJ3_checkIndex_8e157 (F : Nat) (p1 : Int32) (p2 : Int32) (u : St) : Option (Int32 × St) :=
  if p1 < 0 then none else if p1 < p2 then some (p1, u) else none
set_option maxRecDepth 100000 in
set_option maxHeartbeats 4000000 in
theorem tJ3_checkIndex_8e157 {l : Launch} {D : va_G} {cI cZ : ClassId} {ad : Nat → Nat} {tBURNS tFLAME_BOUNDS : Nat} {tS : Option Nat} {adK adV : Nat → Nat} (F : Nat) (p1 : Int32) (p2 : Int32) (u : St) : CtI l D [(cI, .int), (cZ, .boolean)] (wX ad cI cZ) (EX tBURNS tFLAME_BOUNDS tS adK adV) yJ3_checkIndex_8e157 wsJ3_checkIndex_8e157 ({ frames := 0, cells := 0, slots := 0, locals := 0 } : Room) [.int p1, .int p2, va_rf tS] u (pJ3_checkIndex_8e157 F p1 p2 u) := by
  cases tS
  · skip
    refine ctI_of (own := RJ3) (cc := cJ3_checkIndex_8e157) (n := 3) (ret := (some .int)) (by decide) rfl rfl (Nat.le_of_ble_eq_true rfl) (lv := [(0, .int p1), (1, .int p2), (2, _)]) rfl (fun C => ?_)
    rw [pJ3_checkIndex_8e157]
    refine g_iload_n C 0 0 dJ3_checkIndex_8e157_0 rfl ?_
    refine g_if_lt C 1 9 dJ3_checkIndex_8e157_1 (by decide) ?_ ?_
    · skip
      exact g_none
    · skip
      refine g_iload_n C 4 0 dJ3_checkIndex_8e157_4 rfl ?_
      refine g_iload_n C 5 1 dJ3_checkIndex_8e157_5 rfl ?_
      refine g_icmp_lt C 6 16 dJ3_checkIndex_8e157_6 (by decide) ?_ ?_
      · skip
        refine g_iload_n C 16 0 dJ3_checkIndex_8e157_16 rfl ?_
        exact g_iret C 17 dJ3_checkIndex_8e157_17
      · skip
        exact g_none
  · skip
    refine ctI_of (own := RJ3) (cc := cJ3_checkIndex_8e157) (n := 3) (ret := (some .int)) (by decide) rfl rfl (Nat.le_of_ble_eq_true rfl) (lv := [(0, .int p1), (1, .int p2), (2, _)]) rfl (fun C => ?_)
    rw [pJ3_checkIndex_8e157]
    refine g_iload_n C 0 0 dJ3_checkIndex_8e157_0 rfl ?_
    refine g_if_lt C 1 9 dJ3_checkIndex_8e157_1 (by decide) ?_ ?_
    · skip
      exact g_none
    · skip
      refine g_iload_n C 4 0 dJ3_checkIndex_8e157_4 rfl ?_
      refine g_iload_n C 5 1 dJ3_checkIndex_8e157_5 rfl ?_
      refine g_icmp_lt C 6 16 dJ3_checkIndex_8e157_6 (by decide) ?_ ?_
      · skip
        refine g_iload_n C 16 0 dJ3_checkIndex_8e157_16 rfl ?_
        exact g_iret C 17 dJ3_checkIndex_8e157_17
      · skip
        exact g_none
def pJ0_checkIndex_df160 (F : Nat) (p1 : Int32) (p2 : Int32) (u : St) : Option (Unit × St) :=
  bd (pJ3_checkIndex_8e157 F p1 p2 u) (fun (r2 : Int32) (u1 : St) => some ((), u1))
set_option maxRecDepth 100000 in
set_option maxHeartbeats 4000000 in
theorem tJ0_checkIndex_df160 {l : Launch} {D : va_G} {cI cZ : ClassId} {ad : Nat → Nat} {tBURNS tFLAME_BOUNDS : Nat} {tS : Option Nat} {adK adV : Nat → Nat} (F : Nat) (p1 : Int32) (p2 : Int32) (u : St) : CtV l D [(cI, .int), (cZ, .boolean)] (wX ad cI cZ) (EX tBURNS tFLAME_BOUNDS tS adK adV) yJ0_checkIndex_df160 wsJ0_checkIndex_df160 ({ frames := 1, cells := 0, slots := 0, locals := 22 } : Room) [.int p1, .int p2] u (pJ0_checkIndex_df160 F p1 p2 u) := by
  cases tS
  · skip
    refine ctV_of (own := RJ0) (cc := cJ0_checkIndex_df160) (n := 2) (ret := none) (by decide) rfl rfl (Nat.le_of_ble_eq_true rfl) (lv := [(0, .int p1), (1, .int p2)]) rfl (fun C => ?_)
    rw [pJ0_checkIndex_df160]
    refine g_iload_n C 0 0 dJ0_checkIndex_df160_0 rfl ?_
    refine g_iload_n C 1 1 dJ0_checkIndex_df160_1 rfl ?_
    refine g_gets C 2 (EX_zs C.2.2.2.2.2.2.2.2.1) (by decide +kernel) dJ0_checkIndex_df160_2 ?_
    refine g_callSi (st := []) (As := [.int p1, .int p2, _]) C EX_ok EX_vm 5 3 (tJ3_checkIndex_8e157 F p1 p2 u) rfl gJ0_checkIndex_df160_J3_checkIndex_8e157 rfl rfl rfl (by decide +kernel) ⟨Nat.le_of_ble_eq_true rfl, Nat.le_of_ble_eq_true rfl⟩ rfl (Nat.le_of_ble_eq_true rfl) dJ0_checkIndex_df160_5 (fun r2 u1 => ?_)
    refine g_pop C 8 dJ0_checkIndex_df160_8 rfl ?_
    exact g_vret C 9 dJ0_checkIndex_df160_9
  · skip
    refine ctV_of (own := RJ0) (cc := cJ0_checkIndex_df160) (n := 2) (ret := none) (by decide) rfl rfl (Nat.le_of_ble_eq_true rfl) (lv := [(0, .int p1), (1, .int p2)]) rfl (fun C => ?_)
    rw [pJ0_checkIndex_df160]
    refine g_iload_n C 0 0 dJ0_checkIndex_df160_0 rfl ?_
    refine g_iload_n C 1 1 dJ0_checkIndex_df160_1 rfl ?_
    refine g_gets C 2 (EX_zs C.2.2.2.2.2.2.2.2.1) (by decide +kernel) dJ0_checkIndex_df160_2 ?_
    refine g_callSi (st := []) (As := [.int p1, .int p2, _]) C EX_ok EX_vm 5 3 (tJ3_checkIndex_8e157 F p1 p2 u) rfl gJ0_checkIndex_df160_J3_checkIndex_8e157 rfl rfl rfl (by decide +kernel) ⟨Nat.le_of_ble_eq_true rfl, Nat.le_of_ble_eq_true rfl⟩ rfl (Nat.le_of_ble_eq_true rfl) dJ0_checkIndex_df160_5 (fun r2 u1 => ?_)
    refine g_pop C 8 dJ0_checkIndex_df160_8 rfl ?_
    exact g_vret C 9 dJ0_checkIndex_df160_9
def pJ1_charAt_3b067 (F : Nat) (p1 : Nat) (p2 : Int32) (u : St) : Option (Int32 × St) :=
  bd (pJ0_checkIndex_df160 F p2 (Int32.ofNat (lenS.getD p1 0)) u) (fun (_ : Unit) (u1 : St) => gd (inb p2 (lenS.getD p1 0)) (gd (c16 (UInt32.toInt32 (Int32.toUInt32 (((bytS.getD p1 []).getD (Int32.toNatClampNeg p2) 0) &&& 255) % 65536))) (some ((UInt32.toInt32 (Int32.toUInt32 (((bytS.getD p1 []).getD (Int32.toNatClampNeg p2) 0) &&& 255) % 65536)), u1))))
set_option maxRecDepth 100000 in
set_option maxHeartbeats 4000000 in
theorem tJ1_charAt_3b067 {l : Launch} {D : va_G} {cI cZ : ClassId} {ad : Nat → Nat} {tBURNS tFLAME_BOUNDS : Nat} {tS : Option Nat} {adK adV : Nat → Nat} (F : Nat) (p1 : Nat) (hp1 : p1 < 11) (p2 : Int32) (u : St) : CtI l D [(cI, .int), (cZ, .boolean)] (wX ad cI cZ) (EX tBURNS tFLAME_BOUNDS tS adK adV) yJ1_charAt_3b067 wsJ1_charAt_3b067 ({ frames := 2, cells := 0, slots := 0, locals := 43 } : Room) [.ref (adV p1), .int p2] u (pJ1_charAt_3b067 F p1 p2 u) := by
  refine ctI_of (own := RJ1) (cc := cJ1_charAt_3b067) (n := 2) (ret := (some .char)) (by decide) rfl rfl (Nat.le_of_ble_eq_true rfl) (lv := [(0, .ref (adV p1)), (1, .int p2)]) rfl (fun C => ?_)
  rw [pJ1_charAt_3b067]
  refine g_iload_n C 0 1 dJ1_charAt_3b067_0 rfl ?_
  refine g_aload_n C 1 0 dJ1_charAt_3b067_1 rfl ?_
  refine g_klen C 2 p1 hp1 (EX_k C.2.2.2.2.2.2.2.2.1) dJ1_charAt_3b067_2 ?_
  refine g_callSv (st := []) (As := [.int p2, .int (Int32.ofNat (lenS.getD p1 0))]) C EX_ok EX_vm 3 2 (tJ0_checkIndex_df160 F p2 (Int32.ofNat (lenS.getD p1 0)) u) rfl gJ1_charAt_3b067_J0_checkIndex_df160 rfl rfl rfl (by decide +kernel) ⟨Nat.le_of_ble_eq_true rfl, Nat.le_of_ble_eq_true rfl⟩ rfl (Nat.le_of_ble_eq_true rfl) dJ1_charAt_3b067_3 (fun u1 => ?_)
  refine g_aload_n C 6 0 dJ1_charAt_3b067_6 rfl ?_
  refine g_iload_n C 7 1 dJ1_charAt_3b067_7 rfl ?_
  refine g_kb C 8 p1 hp1 (EX_k C.2.2.2.2.2.2.2.2.1) dJ1_charAt_3b067_8 ?_
  refine g_sipush C 9 255 dJ1_charAt_3b067_9 rfl ?_
  refine g_iand C 12 dJ1_charAt_3b067_12 ?_
  refine g_i2c C 13 dJ1_charAt_3b067_13 ?_
  exact g_cret C 14 dJ1_charAt_3b067_14
def pJ0_charAt_5068e (F : Nat) (i : Nat) (p1 : Int32) (u : St) : Option (Int32 × St) :=
  bd (pJ0_isLatin1_aae02 F i u) (fun (r2 : Int32) (u1 : St) => if r2 = 0 then none else bd (pJ1_charAt_3b067 F i p1 u1) (fun (r4 : Int32) (u3 : St) => gd (c16 r4) (some (r4, u3))))
set_option maxRecDepth 100000 in
set_option maxHeartbeats 4000000 in
theorem tJ0_charAt_5068e {l : Launch} {D : va_G} {cI cZ : ClassId} {ad : Nat → Nat} {tBURNS tFLAME_BOUNDS : Nat} {tS : Option Nat} {adK adV : Nat → Nat} (F : Nat) (i : Nat) (hi : i < 11) (p1 : Int32) (u : St) : CtI l D [(cI, .int), (cZ, .boolean)] (wX ad cI cZ) (EX tBURNS tFLAME_BOUNDS tS adK adV) yJ0_charAt_5068e wsJ0_charAt_5068e ({ frames := 3, cells := 0, slots := 0, locals := 64 } : Room) [.ref (adK i), .int p1] u (pJ0_charAt_5068e F i p1 u) := by
  refine ctI_of (own := RJ0) (cc := cJ0_charAt_5068e) (n := 2) (ret := (some .char)) (by decide) rfl rfl (Nat.le_of_ble_eq_true rfl) (lv := [(0, .ref (adK i)), (1, .int p1)]) rfl (fun C => ?_)
  rw [pJ0_charAt_5068e]
  refine g_aload_n C 0 0 dJ0_charAt_5068e_0 rfl ?_
  refine g_callKi (st := []) (As := []) C EX_ok EX_vm 1 i 0 hi (EX_k C.2.2.2.2.2.2.2.2.1) (tJ0_isLatin1_aae02 F i hi u) rfl gJ0_charAt_5068e_J0_isLatin1_aae02 rfl rfl rfl (by decide +kernel) ⟨Nat.le_of_ble_eq_true rfl, Nat.le_of_ble_eq_true rfl⟩ rfl (Nat.le_of_ble_eq_true rfl) dJ0_charAt_5068e_1 (fun r2 u1 => ?_)
  refine g_if_eq C 4 16 dJ0_charAt_5068e_4 (by decide) ?_ ?_
  · skip
    refine g_aload_n C 16 0 dJ0_charAt_5068e_16 rfl ?_
    refine g_kval C 17 i hi (EX_k C.2.2.2.2.2.2.2.2.1) (by decide +kernel) dJ0_charAt_5068e_17 ?_
    refine g_iload_n C 20 1 dJ0_charAt_5068e_20 rfl ?_
    exact g_none
  · skip
    refine g_aload_n C 7 0 dJ0_charAt_5068e_7 rfl ?_
    refine g_kval C 8 i hi (EX_k C.2.2.2.2.2.2.2.2.1) (by decide +kernel) dJ0_charAt_5068e_8 ?_
    refine g_iload_n C 11 1 dJ0_charAt_5068e_11 rfl ?_
    refine g_callSi (st := []) (As := [.ref (adV i), .int p1]) C EX_ok EX_vm 12 2 (tJ1_charAt_3b067 F i hi p1 u1) rfl gJ0_charAt_5068e_J1_charAt_3b067 rfl rfl rfl (by decide +kernel) ⟨Nat.le_of_ble_eq_true rfl, Nat.le_of_ble_eq_true rfl⟩ rfl (Nat.le_of_ble_eq_true rfl) dJ0_charAt_5068e_12 (fun r4 u3 => ?_)
    exact g_cret C 15 dJ0_charAt_5068e_15
def bX2_isNamed_28 (F : Nat) (p1 : Nat) (self5 : Int32 → St → Option (Int32 × St)) (x3 : Int32) (u4 : St) : Option (Int32 × St) :=
  bd (pJ0_length_8abf5 F p1 u4) (fun (r7 : Int32) (u6 : St) => if r7 ≤ x3 then some (1, u6) else if 160 ≤ ((u6.1 21) + x3) then some (1, u6) else gd (inb ((u6.1 21) + x3) 160) (bd (pJ0_charAt_5068e F p1 x3 u6) (fun (r9 : Int32) (u8 : St) => if (u6.2 54 (Int32.toNatClampNeg ((u6.1 21) + x3))) = r9 then (self5 (x3 + 1) u8) else some (0, u8))))
def pX2_isNamed (F : Nat) (p1 : Nat) (u : St) : Option (Int32 × St) :=
  if (u.1 20) = 1 then bd (pJ0_length_8abf5 F p1 u) (fun (r2 : Int32) (u1 : St) => if ((u.1 22) - (u.1 21)) = r2 then (lq1 (bX2_isNamed_28 F p1) F 0 u1) else some (0, u1)) else some (0, u)
set_option maxRecDepth 100000 in
set_option maxHeartbeats 4000000 in
theorem tX2_isNamed {l : Launch} {D : va_G} {cI cZ : ClassId} {ad : Nat → Nat} {tBURNS tFLAME_BOUNDS : Nat} {tS : Option Nat} {adK adV : Nat → Nat} (F : Nat) (p1 : Nat) (hp1 : p1 < 11) (u : St) : CtI l D [(cI, .int), (cZ, .boolean)] (wX ad cI cZ) (EX tBURNS tFLAME_BOUNDS tS adK adV) yX2_isNamed wsX2_isNamed ({ frames := 4, cells := 0, slots := 0, locals := 85 } : Room) [.ref (ad 5), .ref (adK p1)] u (pX2_isNamed F p1 u) := by
  refine ctI_of (own := RX2) (cc := cX2_isNamed) (n := 3) (ret := (some .boolean)) (by decide) rfl rfl (Nat.le_of_ble_eq_true rfl) (lv := [(0, .ref (ad 5)), (1, .ref (adK p1))]) rfl (fun C => ?_)
  have iX2 : ∀ w ∈ wsX20, w ∈ wsX2_isNamed := fun w h => List.mem_cons_of_mem _ (List.mem_append_right _ (inlX2 w h))
  rw [pX2_isNamed]
  refine g_aload_n C 0 0 dX2_isNamed_0 rfl ?_
  refine gfX_X2_token C 1 iX2 (List.mem_cons_of_mem _ (List.mem_append_right _ wgL_4_1.1)) dX2_isNamed_1 ?_
  refine g_iconst C 4 1 dX2_isNamed_4 rfl ?_
  refine g_icmp_ne C 5 24 dX2_isNamed_5 (by decide) ?_ ?_
  · skip
    refine g_iconst C 24 0 dX2_isNamed_24 rfl ?_
    exact g_nret C 25 rfl dX2_isNamed_25
  · skip
    refine g_aload_n C 8 0 dX2_isNamed_8 rfl ?_
    refine gfX_X2_behind C 9 iX2 (List.mem_cons_of_mem _ (List.mem_append_right _ wgL_4_3.1)) dX2_isNamed_9 ?_
    refine g_aload_n C 12 0 dX2_isNamed_12 rfl ?_
    refine gfX_X2_from C 13 iX2 (List.mem_cons_of_mem _ (List.mem_append_right _ wgL_4_2.1)) dX2_isNamed_13 ?_
    refine g_isub C 16 dX2_isNamed_16 ?_
    refine g_aload_n C 17 1 dX2_isNamed_17 rfl ?_
    refine g_callKi (st := [.int ((u.1 22) - (u.1 21))]) (As := []) C EX_ok EX_vm 18 p1 0 hp1 (EX_k C.2.2.2.2.2.2.2.2.1) (tJ0_length_8abf5 F p1 hp1 u) rfl gX2_isNamed_J0_length_8abf5 rfl rfl rfl (by decide +kernel) ⟨Nat.le_of_ble_eq_true rfl, Nat.le_of_ble_eq_true rfl⟩ rfl (Nat.le_of_ble_eq_true rfl) dX2_isNamed_18 (fun r2 u1 => ?_)
    refine g_icmp_eq C 21 26 dX2_isNamed_21 (by decide) ?_ ?_
    · skip
      refine g_iconst C 26 0 dX2_isNamed_26 rfl ?_
      refine g_istore_n C 27 [(2, .int 0), (0, .ref (ad 5)), (1, .ref (adK p1))] dX2_isNamed_27 (by decide) rfl ?_
      refine g_sub _ [1, 2, 0] rfl ?_
      refine g_lq1 (fun (x3 : Int32) => [(0, .ref (ad 5)), (1, .ref (adK p1)), (2, .int x3)]) (fun self5 hself5 x3 u4 => ?_) F 0 u1
      rw [bX2_isNamed_28]
      refine g_iload_n C 28 2 dX2_isNamed_28 rfl ?_
      refine g_aload_n C 29 1 dX2_isNamed_29 rfl ?_
      refine g_callKi (st := [.int x3]) (As := []) C EX_ok EX_vm 30 p1 0 hp1 (EX_k C.2.2.2.2.2.2.2.2.1) (tJ0_length_8abf5 F p1 hp1 u4) rfl gX2_isNamed_J0_length_8abf5 rfl rfl rfl (by decide +kernel) ⟨Nat.le_of_ble_eq_true rfl, Nat.le_of_ble_eq_true rfl⟩ rfl (Nat.le_of_ble_eq_true rfl) dX2_isNamed_30 (fun r7 u6 => ?_)
      refine g_icmp_ge C 33 75 dX2_isNamed_33 (by decide) ?_ ?_
      · skip
        refine g_iconst C 75 1 dX2_isNamed_75 rfl ?_
        exact g_nret C 76 rfl dX2_isNamed_76
      · skip
        refine g_aload_n C 36 0 dX2_isNamed_36 rfl ?_
        refine gfX_X2_from C 37 iX2 (List.mem_cons_of_mem _ (List.mem_append_right _ wgL_4_2.1)) dX2_isNamed_37 ?_
        refine g_iload_n C 40 2 dX2_isNamed_40 rfl ?_
        refine g_iadd C 41 dX2_isNamed_41 ?_
        refine g_sipush C 42 160 dX2_isNamed_42 rfl ?_
        refine g_icmp_ge C 45 75 dX2_isNamed_45 (by decide) ?_ ?_
        · skip
          refine g_iconst C 75 1 dX2_isNamed_75 rfl ?_
          exact g_nret C 76 rfl dX2_isNamed_76
        · skip
          refine g_aload_n C 48 0 dX2_isNamed_48 rfl ?_
          refine gfX_X2_tape C 49 iX2 (List.mem_cons_of_mem _ (List.mem_append_right _ wgL_3_19.1)) dX2_isNamed_49 ?_
          refine g_aload_n C 52 0 dX2_isNamed_52 rfl ?_
          refine gfX_X2_from C 53 iX2 (List.mem_cons_of_mem _ (List.mem_append_right _ wgL_4_2.1)) dX2_isNamed_53 ?_
          refine g_iload_n C 56 2 dX2_isNamed_56 rfl ?_
          refine g_iadd C 57 dX2_isNamed_57 ?_
          refine g_iald C 58 (10 + 54) 0 (wX_arr 54 (by decide)) rfl dX2_isNamed_58 ?_
          refine g_aload_n C 59 1 dX2_isNamed_59 rfl ?_
          refine g_iload_n C 60 2 dX2_isNamed_60 rfl ?_
          refine g_callKi (st := [.int (u6.2 54 (Int32.toNatClampNeg ((u6.1 21) + x3)))]) (As := [.int x3]) C EX_ok EX_vm 61 p1 1 hp1 (EX_k C.2.2.2.2.2.2.2.2.1) (tJ0_charAt_5068e F p1 hp1 x3 u6) rfl gX2_isNamed_J0_charAt_5068e rfl rfl rfl (by decide +kernel) ⟨Nat.le_of_ble_eq_true rfl, Nat.le_of_ble_eq_true rfl⟩ rfl (Nat.le_of_ble_eq_true rfl) dX2_isNamed_61 (fun r9 u8 => ?_)
          refine g_icmp_eq C 64 69 dX2_isNamed_64 (by decide) ?_ ?_
          · skip
            refine g_iinc C 69 2 [(2, .int (x3 + 1)), (0, .ref (ad 5)), (1, .ref (adK p1))] dX2_isNamed_69 rfl rfl (by decide) rfl ?_
            refine g_goto C 72 28 dX2_isNamed_72 (by decide) ?_
            exact g_sub _ [1, 2, 0] rfl (hself5 (x3 + 1) u8)
          · skip
            refine g_iconst C 67 0 dX2_isNamed_67 rfl ?_
            exact g_nret C 68 rfl dX2_isNamed_68
    · skip
      refine g_iconst C 24 0 dX2_isNamed_24 rfl ?_
      exact g_nret C 25 rfl dX2_isNamed_25
def pX2_kindNamed (F : Nat)  (u : St) : Option (Int32 × St) :=
  bd (pX2_isNamed F 1 u) (fun (r2 : Int32) (u1 : St) => if r2 = 0 then bd (pX2_isNamed F 2 u1) (fun (r4 : Int32) (u3 : St) => if r4 = 0 then bd (pX2_isNamed F 3 u3) (fun (r6 : Int32) (u5 : St) => if r6 = 0 then bd (pX2_isNamed F 4 u5) (fun (r8 : Int32) (u7 : St) => if r8 = 0 then some ((-4), u7) else some (3, u7)) else some (2, u5)) else some (1, u3)) else some (0, u1))
set_option maxRecDepth 100000 in
set_option maxHeartbeats 4000000 in
theorem tX2_kindNamed {l : Launch} {D : va_G} {cI cZ : ClassId} {ad : Nat → Nat} {tBURNS tFLAME_BOUNDS : Nat} {tS : Option Nat} {adK adV : Nat → Nat} (F : Nat)  (u : St) : CtI l D [(cI, .int), (cZ, .boolean)] (wX ad cI cZ) (EX tBURNS tFLAME_BOUNDS tS adK adV) yX2_kindNamed wsX2_kindNamed ({ frames := 5, cells := 0, slots := 0, locals := 107 } : Room) [.ref (ad 5)] u (pX2_kindNamed F u) := by
  refine ctI_of (own := RX2) (cc := cX2_kindNamed) (n := 1) (ret := (some .int)) (by decide) rfl rfl (Nat.le_of_ble_eq_true rfl) (lv := [(0, .ref (ad 5))]) rfl (fun C => ?_)
  rw [pX2_kindNamed]
  refine g_aload_n C 0 0 dX2_kindNamed_0 rfl ?_
  refine g_ldcS C 1 (EX_s1 C.2.2.2.2.2.2.2.2.1) dX2_kindNamed_1 ?_
  refine g_callVi (st := []) (As := [.ref (adK 1)]) C EX_ok EX_vm 3 5 1 (tX2_isNamed F 1 (by decide) u) rfl gX2_kindNamed_X2_isNamed rfl rfl rfl (by decide +kernel) ⟨Nat.le_of_ble_eq_true rfl, Nat.le_of_ble_eq_true rfl⟩ rfl rfl rfl (Nat.le_of_ble_eq_true rfl) dX2_kindNamed_3 (fun r2 u1 => ?_)
  refine g_if_eq C 6 11 dX2_kindNamed_6 (by decide) ?_ ?_
  · skip
    refine g_aload_n C 11 0 dX2_kindNamed_11 rfl ?_
    refine g_ldcS C 12 (EX_s2 C.2.2.2.2.2.2.2.2.1) dX2_kindNamed_12 ?_
    refine g_callVi (st := []) (As := [.ref (adK 2)]) C EX_ok EX_vm 14 5 1 (tX2_isNamed F 2 (by decide) u1) rfl gX2_kindNamed_X2_isNamed rfl rfl rfl (by decide +kernel) ⟨Nat.le_of_ble_eq_true rfl, Nat.le_of_ble_eq_true rfl⟩ rfl rfl rfl (Nat.le_of_ble_eq_true rfl) dX2_kindNamed_14 (fun r4 u3 => ?_)
    refine g_if_eq C 17 22 dX2_kindNamed_17 (by decide) ?_ ?_
    · skip
      refine g_aload_n C 22 0 dX2_kindNamed_22 rfl ?_
      refine g_ldcS C 23 (EX_s3 C.2.2.2.2.2.2.2.2.1) dX2_kindNamed_23 ?_
      refine g_callVi (st := []) (As := [.ref (adK 3)]) C EX_ok EX_vm 25 5 1 (tX2_isNamed F 3 (by decide) u3) rfl gX2_kindNamed_X2_isNamed rfl rfl rfl (by decide +kernel) ⟨Nat.le_of_ble_eq_true rfl, Nat.le_of_ble_eq_true rfl⟩ rfl rfl rfl (Nat.le_of_ble_eq_true rfl) dX2_kindNamed_25 (fun r6 u5 => ?_)
      refine g_if_eq C 28 33 dX2_kindNamed_28 (by decide) ?_ ?_
      · skip
        refine g_aload_n C 33 0 dX2_kindNamed_33 rfl ?_
        refine g_ldcS C 34 (EX_s4 C.2.2.2.2.2.2.2.2.1) dX2_kindNamed_34 ?_
        refine g_callVi (st := []) (As := [.ref (adK 4)]) C EX_ok EX_vm 36 5 1 (tX2_isNamed F 4 (by decide) u5) rfl gX2_kindNamed_X2_isNamed rfl rfl rfl (by decide +kernel) ⟨Nat.le_of_ble_eq_true rfl, Nat.le_of_ble_eq_true rfl⟩ rfl rfl rfl (Nat.le_of_ble_eq_true rfl) dX2_kindNamed_36 (fun r8 u7 => ?_)
        refine g_if_eq C 39 46 dX2_kindNamed_39 (by decide) ?_ ?_
        · skip
          refine g_bipush C 46 (-4) dX2_kindNamed_46 rfl ?_
          exact g_iret C 48 dX2_kindNamed_48
        · skip
          refine g_iconst C 42 3 dX2_kindNamed_42 rfl ?_
          refine g_goto C 43 48 dX2_kindNamed_43 (by decide) ?_
          exact g_iret C 48 dX2_kindNamed_48
      · skip
        refine g_iconst C 31 2 dX2_kindNamed_31 rfl ?_
        exact g_iret C 32 dX2_kindNamed_32
    · skip
      refine g_iconst C 20 1 dX2_kindNamed_20 rfl ?_
      exact g_iret C 21 dX2_kindNamed_21
  · skip
    refine g_iconst C 9 0 dX2_kindNamed_9 rfl ?_
    exact g_iret C 10 dX2_kindNamed_10
def pX2_isNumberIn (F : Nat) (p1 : Int32) (p2 : Int32) (u : St) : Option (Int32 × St) :=
  bd (pX6_isIn F (Int32.toInt64 (u.1 23)) p1 p2 u) (fun (r2 : Int32) (u1 : St) => if r2 = 0 then bd (pX2_fails F 3 u1) (fun (r4 : Int32) (u3 : St) => if r4 = 0 then some (0, u3) else some (1, u3)) else some (1, u1))
set_option maxRecDepth 100000 in
set_option maxHeartbeats 4000000 in
theorem tX2_isNumberIn {l : Launch} {D : va_G} {cI cZ : ClassId} {ad : Nat → Nat} {tBURNS tFLAME_BOUNDS : Nat} {tS : Option Nat} {adK adV : Nat → Nat} (F : Nat) (p1 : Int32) (p2 : Int32) (u : St) : CtI l D [(cI, .int), (cZ, .boolean)] (wX ad cI cZ) (EX tBURNS tFLAME_BOUNDS tS adK adV) yX2_isNumberIn wsX2_isNumberIn ({ frames := 1, cells := 0, slots := 0, locals := 23 } : Room) [.ref (ad 5), .int p1, .int p2] u (pX2_isNumberIn F p1 p2 u) := by
  refine ctI_of (own := RX2) (cc := cX2_isNumberIn) (n := 3) (ret := (some .boolean)) (by decide) rfl rfl (Nat.le_of_ble_eq_true rfl) (lv := [(0, .ref (ad 5)), (1, .int p1), (2, .int p2)]) rfl (fun C => ?_)
  have iX2 : ∀ w ∈ wsX20, w ∈ wsX2_isNumberIn := fun w h => List.mem_cons_of_mem _ (List.mem_append_right _ (inlX2 w h))
  rw [pX2_isNumberIn]
  refine g_aload_n C 0 0 dX2_isNumberIn_0 rfl ?_
  refine gfX_X2_number C 1 iX2 (List.mem_cons_of_mem _ (List.mem_append_right _ wgL_4_4.1)) dX2_isNumberIn_1 ?_
  refine g_i2l C 4 dX2_isNumberIn_4 ?_
  refine g_iload_n C 5 1 dX2_isNumberIn_5 rfl ?_
  refine g_iload_n C 6 2 dX2_isNumberIn_6 rfl ?_
  refine g_callNi (st := []) (As := [.long (Int32.toInt64 (u.1 23)), .int p1, .int p2]) C EX_ok EX_vm 7 3 (tX6_isIn F (Int32.toInt64 (u.1 23)) p1 p2 u) rfl ggX2_isNumberIn_X6_isIn rfl rfl rfl (EX_n0 C.2.2.2.2.2.2.2.2.1) (by decide +kernel) (by decide +kernel) (by decide +kernel) ⟨Nat.le_of_ble_eq_true rfl, Nat.le_of_ble_eq_true rfl⟩ rfl (Nat.le_of_ble_eq_true rfl) dX2_isNumberIn_7 (fun r2 u1 => ?_)
  refine g_if_ne C 10 21 dX2_isNumberIn_10 (by decide) ?_ ?_
  · skip
    refine g_iconst C 21 1 dX2_isNumberIn_21 rfl ?_
    refine g_goto C 22 26 dX2_isNumberIn_22 (by decide) ?_
    exact g_nret C 26 rfl dX2_isNumberIn_26
  · skip
    refine g_aload_n C 13 0 dX2_isNumberIn_13 rfl ?_
    refine g_iconst C 14 3 dX2_isNumberIn_14 rfl ?_
    refine g_callVi (st := []) (As := [.int 3]) C EX_ok EX_vm 15 5 1 (tX2_fails F 3 u1) rfl gX2_isNumberIn_X2_fails rfl rfl rfl (by decide +kernel) ⟨Nat.le_of_ble_eq_true rfl, Nat.le_of_ble_eq_true rfl⟩ rfl rfl rfl (Nat.le_of_ble_eq_true rfl) dX2_isNumberIn_15 (fun r4 u3 => ?_)
    refine g_if_eq C 18 25 dX2_isNumberIn_18 (by decide) ?_ ?_
    · skip
      refine g_iconst C 25 0 dX2_isNumberIn_25 rfl ?_
      exact g_nret C 26 rfl dX2_isNumberIn_26
    · skip
      refine g_iconst C 21 1 dX2_isNumberIn_21 rfl ?_
      refine g_goto C 22 26 dX2_isNumberIn_22 (by decide) ?_
      exact g_nret C 26 rfl dX2_isNumberIn_26
def pX2_readsNumber (F : Nat) (p1 : Int32) (p2 : Int32) (u : St) : Option (Int32 × St) :=
  bd (pX2_readsNext F u) (fun (r2 : Int32) (u1 : St) => if r2 = 0 then some (0, u1) else if (u1.1 20) = 2 then bd (pX2_isNumberIn F p1 p2 u1) (fun (r6 : Int32) (u5 : St) => gd (z01 r6) (some (r6, u5))) else bd (pX2_fails F 2 u1) (fun (r4 : Int32) (u3 : St) => gd (z01 r4) (some (r4, u3))))
set_option maxRecDepth 100000 in
set_option maxHeartbeats 4000000 in
theorem tX2_readsNumber {l : Launch} {D : va_G} {cI cZ : ClassId} {ad : Nat → Nat} {tBURNS tFLAME_BOUNDS : Nat} {tS : Option Nat} {adK adV : Nat → Nat} (F : Nat) (p1 : Int32) (p2 : Int32) (u : St) : CtI l D [(cI, .int), (cZ, .boolean)] (wX ad cI cZ) (EX tBURNS tFLAME_BOUNDS tS adK adV) yX2_readsNumber wsX2_readsNumber ({ frames := 2, cells := 0, slots := 0, locals := 45 } : Room) [.ref (ad 5), .int p1, .int p2] u (pX2_readsNumber F p1 p2 u) := by
  refine ctI_of (own := RX2) (cc := cX2_readsNumber) (n := 3) (ret := (some .boolean)) (by decide) rfl rfl (Nat.le_of_ble_eq_true rfl) (lv := [(0, .ref (ad 5)), (1, .int p1), (2, .int p2)]) rfl (fun C => ?_)
  have iX2 : ∀ w ∈ wsX20, w ∈ wsX2_readsNumber := fun w h => List.mem_cons_of_mem _ (List.mem_append_right _ (inlX2 w h))
  rw [pX2_readsNumber]
  refine g_aload_n C 0 0 dX2_readsNumber_0 rfl ?_
  refine g_callVi (st := []) (As := []) C EX_ok EX_vm 1 5 0 (tX2_readsNext F u) rfl gX2_readsNumber_X2_readsNext rfl rfl rfl (by decide +kernel) ⟨Nat.le_of_ble_eq_true rfl, Nat.le_of_ble_eq_true rfl⟩ rfl rfl rfl (Nat.le_of_ble_eq_true rfl) dX2_readsNumber_1 (fun r2 u1 => ?_)
  refine g_if_ne C 4 9 dX2_readsNumber_4 (by decide) ?_ ?_
  · skip
    refine g_aload_n C 9 0 dX2_readsNumber_9 rfl ?_
    refine gfX_X2_token C 10 iX2 (List.mem_cons_of_mem _ (List.mem_append_right _ wgL_4_1.1)) dX2_readsNumber_10 ?_
    refine g_iconst C 13 2 dX2_readsNumber_13 rfl ?_
    refine g_icmp_ne C 14 26 dX2_readsNumber_14 (by decide) ?_ ?_
    · skip
      refine g_aload_n C 26 0 dX2_readsNumber_26 rfl ?_
      refine g_iconst C 27 2 dX2_readsNumber_27 rfl ?_
      refine g_callVi (st := []) (As := [.int 2]) C EX_ok EX_vm 28 5 1 (tX2_fails F 2 u1) rfl gX2_readsNumber_X2_fails rfl rfl rfl (by decide +kernel) ⟨Nat.le_of_ble_eq_true rfl, Nat.le_of_ble_eq_true rfl⟩ rfl rfl rfl (Nat.le_of_ble_eq_true rfl) dX2_readsNumber_28 (fun r4 u3 => ?_)
      exact g_zret C 31 dX2_readsNumber_31
    · skip
      refine g_aload_n C 17 0 dX2_readsNumber_17 rfl ?_
      refine g_iload_n C 18 1 dX2_readsNumber_18 rfl ?_
      refine g_iload_n C 19 2 dX2_readsNumber_19 rfl ?_
      refine g_callVi (st := []) (As := [.int p1, .int p2]) C EX_ok EX_vm 20 5 2 (tX2_isNumberIn F p1 p2 u1) rfl gX2_readsNumber_X2_isNumberIn rfl rfl rfl (by decide +kernel) ⟨Nat.le_of_ble_eq_true rfl, Nat.le_of_ble_eq_true rfl⟩ rfl rfl rfl (Nat.le_of_ble_eq_true rfl) dX2_readsNumber_20 (fun r6 u5 => ?_)
      refine g_goto C 23 31 dX2_readsNumber_23 (by decide) ?_
      exact g_zret C 31 dX2_readsNumber_31
  · skip
    refine g_iconst C 7 0 dX2_readsNumber_7 rfl ?_
    exact g_nret C 8 rfl dX2_readsNumber_8
def pX2_takesFlame (F : Nat) (p1 : Int32) (u : St) : Option (Int32 × St) :=
  bd (pX2_kindNamed F u) (fun (r2 : Int32) (u1 : St) => if r2 = (-4) then bd (pX2_fails F 2 u1) (fun (r16 : Int32) (u15 : St) => gd (z01 r16) (some (r16, u15))) else bd (pX2_readsNumber F 0 99 u1) (fun (r4 : Int32) (u3 : St) => if r4 = 0 then some (0, u3) else gd (inb p1 8) (vl (sta u3 39 p1 r2) (fun (u5 : St) => gd (inb p1 8) (vl (sta u5 40 p1 (u5.1 23)) (fun (u6 : St) => gd (inb p1 8) (vl (sta u6 41 p1 0) (fun (u7 : St) => bd (pX2_readsNext F u7) (fun (r9 : Int32) (u8 : St) => if r9 = 0 then some (0, u8) else if (u8.1 20) = 2 then gd (inb p1 8) (vl (sta u8 41 p1 (u8.1 23)) (fun (u10 : St) => bd (pX2_isNumberIn F 0 9 u10) (fun (r12 : Int32) (u11 : St) => if r12 = 0 then some (0, u11) else bd (pX2_readsNext F u11) (fun (r14 : Int32) (u13 : St) => if r14 = 0 then some (0, u13) else some (1, u13))))) else some (1, u8))))))))))
set_option maxRecDepth 100000 in
set_option maxHeartbeats 4000000 in
theorem tX2_takesFlame {l : Launch} {D : va_G} {cI cZ : ClassId} {ad : Nat → Nat} {tBURNS tFLAME_BOUNDS : Nat} {tS : Option Nat} {adK adV : Nat → Nat} (F : Nat) (p1 : Int32) (u : St) : CtI l D [(cI, .int), (cZ, .boolean)] (wX ad cI cZ) (EX tBURNS tFLAME_BOUNDS tS adK adV) yX2_takesFlame wsX2_takesFlame ({ frames := 6, cells := 0, slots := 0, locals := 127 } : Room) [.ref (ad 5), .int p1] u (pX2_takesFlame F p1 u) := by
  refine ctI_of (own := RX2) (cc := cX2_takesFlame) (n := 3) (ret := (some .boolean)) (by decide) rfl rfl (Nat.le_of_ble_eq_true rfl) (lv := [(0, .ref (ad 5)), (1, .int p1)]) rfl (fun C => ?_)
  have iX0 : ∀ w ∈ wsX00, w ∈ wsX2_takesFlame := fun w h => List.mem_cons_of_mem _ (List.mem_append_right _ (inlX0 w h))
  have iX2 : ∀ w ∈ wsX20, w ∈ wsX2_takesFlame := fun w h => List.mem_cons_of_mem _ (List.mem_append_right _ (inlX2 w h))
  rw [pX2_takesFlame]
  refine g_aload_n C 0 0 dX2_takesFlame_0 rfl ?_
  refine g_callVi (st := []) (As := []) C EX_ok EX_vm 1 5 0 (tX2_kindNamed F u) rfl gX2_takesFlame_X2_kindNamed rfl rfl rfl (by decide +kernel) ⟨Nat.le_of_ble_eq_true rfl, Nat.le_of_ble_eq_true rfl⟩ rfl rfl rfl (Nat.le_of_ble_eq_true rfl) dX2_takesFlame_1 (fun r2 u1 => ?_)
  refine g_istore_n C 4 [(2, .int r2), (0, .ref (ad 5)), (1, .int p1)] dX2_takesFlame_4 (by decide) rfl ?_
  refine g_iload_n C 5 0 dX2_takesFlame_5 rfl ?_
  refine g_bipush C 6 (-4) dX2_takesFlame_6 rfl ?_
  refine g_icmp_ne C 8 17 dX2_takesFlame_8 (by decide) ?_ ?_
  · skip
    refine g_aload_n C 17 1 dX2_takesFlame_17 rfl ?_
    refine g_iconst C 18 0 dX2_takesFlame_18 rfl ?_
    refine g_bipush C 19 99 dX2_takesFlame_19 rfl ?_
    refine g_callVi (st := []) (As := [.int 0, .int 99]) C EX_ok EX_vm 21 5 2 (tX2_readsNumber F 0 99 u1) rfl gX2_takesFlame_X2_readsNumber rfl rfl rfl (by decide +kernel) ⟨Nat.le_of_ble_eq_true rfl, Nat.le_of_ble_eq_true rfl⟩ rfl rfl rfl (Nat.le_of_ble_eq_true rfl) dX2_takesFlame_21 (fun r4 u3 => ?_)
    refine g_if_ne C 24 29 dX2_takesFlame_24 (by decide) ?_ ?_
    · skip
      refine g_aload_n C 29 1 dX2_takesFlame_29 rfl ?_
      refine gfX_X2_told C 30 iX2 (List.mem_cons_of_mem _ (List.mem_append_right _ wgL_3_21.1)) dX2_takesFlame_30 ?_
      refine gfX_X0_kind 3 (by decide) C 33 iX0 (List.mem_cons_of_mem _ (List.mem_append_right _ wgL_11_12.1)) dX2_takesFlame_33 ?_
      refine g_iload_n C 36 2 dX2_takesFlame_36 rfl ?_
      refine g_iload_n C 37 0 dX2_takesFlame_37 rfl ?_
      refine g_iast C 38 (10 + 39) 0 39 (wX_arr 39 (by decide)) (wX_aset 39 (by decide)) rfl dX2_takesFlame_38 (fun u5 => ?_)
      refine g_aload_n C 39 1 dX2_takesFlame_39 rfl ?_
      refine gfX_X2_told C 40 iX2 (List.mem_cons_of_mem _ (List.mem_append_right _ wgL_3_21.1)) dX2_takesFlame_40 ?_
      refine gfX_X0_length 3 (by decide) C 43 iX0 (List.mem_cons_of_mem _ (List.mem_append_right _ wgL_11_13.1)) dX2_takesFlame_43 ?_
      refine g_iload_n C 46 2 dX2_takesFlame_46 rfl ?_
      refine g_aload_n C 47 1 dX2_takesFlame_47 rfl ?_
      refine gfX_X2_number C 48 iX2 (List.mem_cons_of_mem _ (List.mem_append_right _ wgL_4_4.1)) dX2_takesFlame_48 ?_
      refine g_iast C 51 (10 + 40) 0 40 (wX_arr 40 (by decide)) (wX_aset 40 (by decide)) rfl dX2_takesFlame_51 (fun u6 => ?_)
      refine g_aload_n C 52 1 dX2_takesFlame_52 rfl ?_
      refine gfX_X2_told C 53 iX2 (List.mem_cons_of_mem _ (List.mem_append_right _ wgL_3_21.1)) dX2_takesFlame_53 ?_
      refine gfX_X0_guard 3 (by decide) C 56 iX0 (List.mem_cons_of_mem _ (List.mem_append_right _ wgL_11_14.1)) dX2_takesFlame_56 ?_
      refine g_iload_n C 59 2 dX2_takesFlame_59 rfl ?_
      refine g_iconst C 60 0 dX2_takesFlame_60 rfl ?_
      refine g_iast C 61 (10 + 41) 0 41 (wX_arr 41 (by decide)) (wX_aset 41 (by decide)) rfl dX2_takesFlame_61 (fun u7 => ?_)
      refine g_aload_n C 62 1 dX2_takesFlame_62 rfl ?_
      refine g_callVi (st := []) (As := []) C EX_ok EX_vm 63 5 0 (tX2_readsNext F u7) rfl gX2_takesFlame_X2_readsNext rfl rfl rfl (by decide +kernel) ⟨Nat.le_of_ble_eq_true rfl, Nat.le_of_ble_eq_true rfl⟩ rfl rfl rfl (Nat.le_of_ble_eq_true rfl) dX2_takesFlame_63 (fun r9 u8 => ?_)
      refine g_if_ne C 66 71 dX2_takesFlame_66 (by decide) ?_ ?_
      · skip
        refine g_aload_n C 71 1 dX2_takesFlame_71 rfl ?_
        refine gfX_X2_token C 72 iX2 (List.mem_cons_of_mem _ (List.mem_append_right _ wgL_4_1.1)) dX2_takesFlame_72 ?_
        refine g_iconst C 75 2 dX2_takesFlame_75 rfl ?_
        refine g_icmp_eq C 76 81 dX2_takesFlame_76 (by decide) ?_ ?_
        · skip
          refine g_aload_n C 81 1 dX2_takesFlame_81 rfl ?_
          refine gfX_X2_told C 82 iX2 (List.mem_cons_of_mem _ (List.mem_append_right _ wgL_3_21.1)) dX2_takesFlame_82 ?_
          refine gfX_X0_guard 3 (by decide) C 85 iX0 (List.mem_cons_of_mem _ (List.mem_append_right _ wgL_11_14.1)) dX2_takesFlame_85 ?_
          refine g_iload_n C 88 2 dX2_takesFlame_88 rfl ?_
          refine g_aload_n C 89 1 dX2_takesFlame_89 rfl ?_
          refine gfX_X2_number C 90 iX2 (List.mem_cons_of_mem _ (List.mem_append_right _ wgL_4_4.1)) dX2_takesFlame_90 ?_
          refine g_iast C 93 (10 + 41) 0 41 (wX_arr 41 (by decide)) (wX_aset 41 (by decide)) rfl dX2_takesFlame_93 (fun u10 => ?_)
          refine g_aload_n C 94 1 dX2_takesFlame_94 rfl ?_
          refine g_iconst C 95 0 dX2_takesFlame_95 rfl ?_
          refine g_bipush C 96 9 dX2_takesFlame_96 rfl ?_
          refine g_callVi (st := []) (As := [.int 0, .int 9]) C EX_ok EX_vm 98 5 2 (tX2_isNumberIn F 0 9 u10) rfl gX2_takesFlame_X2_isNumberIn rfl rfl rfl (by decide +kernel) ⟨Nat.le_of_ble_eq_true rfl, Nat.le_of_ble_eq_true rfl⟩ rfl rfl rfl (Nat.le_of_ble_eq_true rfl) dX2_takesFlame_98 (fun r12 u11 => ?_)
          refine g_if_eq C 101 115 dX2_takesFlame_101 (by decide) ?_ ?_
          · skip
            refine g_iconst C 115 0 dX2_takesFlame_115 rfl ?_
            exact g_nret C 116 rfl dX2_takesFlame_116
          · skip
            refine g_aload_n C 104 1 dX2_takesFlame_104 rfl ?_
            refine g_callVi (st := []) (As := []) C EX_ok EX_vm 105 5 0 (tX2_readsNext F u11) rfl gX2_takesFlame_X2_readsNext rfl rfl rfl (by decide +kernel) ⟨Nat.le_of_ble_eq_true rfl, Nat.le_of_ble_eq_true rfl⟩ rfl rfl rfl (Nat.le_of_ble_eq_true rfl) dX2_takesFlame_105 (fun r14 u13 => ?_)
            refine g_if_eq C 108 115 dX2_takesFlame_108 (by decide) ?_ ?_
            · skip
              refine g_iconst C 115 0 dX2_takesFlame_115 rfl ?_
              exact g_nret C 116 rfl dX2_takesFlame_116
            · skip
              refine g_iconst C 111 1 dX2_takesFlame_111 rfl ?_
              refine g_goto C 112 116 dX2_takesFlame_112 (by decide) ?_
              exact g_nret C 116 rfl dX2_takesFlame_116
        · skip
          refine g_iconst C 79 1 dX2_takesFlame_79 rfl ?_
          exact g_nret C 80 rfl dX2_takesFlame_80
      · skip
        refine g_iconst C 69 0 dX2_takesFlame_69 rfl ?_
        exact g_nret C 70 rfl dX2_takesFlame_70
    · skip
      refine g_iconst C 27 0 dX2_takesFlame_27 rfl ?_
      exact g_nret C 28 rfl dX2_takesFlame_28
  · skip
    refine g_aload_n C 11 1 dX2_takesFlame_11 rfl ?_
    refine g_iconst C 12 2 dX2_takesFlame_12 rfl ?_
    refine g_callVi (st := []) (As := [.int 2]) C EX_ok EX_vm 13 5 1 (tX2_fails F 2 u1) rfl gX2_takesFlame_X2_fails rfl rfl rfl (by decide +kernel) ⟨Nat.le_of_ble_eq_true rfl, Nat.le_of_ble_eq_true rfl⟩ rfl rfl rfl (Nat.le_of_ble_eq_true rfl) dX2_takesFlame_13 (fun r16 u15 => ?_)
    exact g_zret C 16 dX2_takesFlame_16
def pX0_addCase (F : Nat) (j : Nat) (u : St) : Option (Unit × St) :=
  if 4 ≤ (u.1 (4 * j + 0)) then some ((), u) else gd (inb (u.1 (4 * j + 0)) 4) (vl (sta u (13 * j + 3) (u.1 (4 * j + 0)) 0) (fun (u1 : St) => gd (inb (u1.1 (4 * j + 0)) 4) (vl (sta u1 (13 * j + 4) (u1.1 (4 * j + 0)) 0) (fun (u2 : St) => gd (inb (u2.1 (4 * j + 0)) 4) (vl (sta u2 (13 * j + 5) (u2.1 (4 * j + 0)) (-4)) (fun (u3 : St) => gd (inb (u3.1 (4 * j + 0)) 4) (vl (sta u3 (13 * j + 6) (u3.1 (4 * j + 0)) (-4)) (fun (u4 : St) => vl (stf u4 (4 * j + 0) ((u4.1 (4 * j + 0)) + 1)) (fun (u5 : St) => some ((), u5))))))))))
set_option maxRecDepth 100000 in
set_option maxHeartbeats 4000000 in
theorem tX0_addCase {l : Launch} {D : va_G} {cI cZ : ClassId} {ad : Nat → Nat} {tBURNS tFLAME_BOUNDS : Nat} {tS : Option Nat} {adK adV : Nat → Nat} (F : Nat) (j : Nat) (hj : j < 4) (u : St) : CtV l D [(cI, .int), (cZ, .boolean)] (wX ad cI cZ) (EX tBURNS tFLAME_BOUNDS tS adK adV) yX0_addCase wsX0_addCase ({ frames := 0, cells := 0, slots := 0, locals := 0 } : Room) [.ref (ad (1 + j))] u (pX0_addCase F j u) := by
  refine ctV_of (own := RX0) (cc := cX0_addCase) (n := 1) (ret := none) (by decide) rfl rfl (Nat.le_of_ble_eq_true rfl) (lv := [(0, .ref (ad (1 + j)))]) rfl (fun C => ?_)
  have iX0 : ∀ w ∈ wsX00, w ∈ wsX0_addCase := fun w h => List.mem_cons_of_mem _ (List.mem_append_right _ (inlX0 w h))
  rw [pX0_addCase]
  refine g_aload_n C 0 0 dX0_addCase_0 rfl ?_
  refine gfX_X0_cases j hj C 1 iX0 (List.mem_cons_of_mem _ (List.mem_append_right _ wgL_2_23.1)) dX0_addCase_1 ?_
  refine g_iconst C 4 4 dX0_addCase_4 rfl ?_
  refine g_icmp_ge C 5 60 dX0_addCase_5 (by decide) ?_ ?_
  · skip
    exact g_vret C 60 dX0_addCase_60
  · skip
    refine g_aload_n C 8 0 dX0_addCase_8 rfl ?_
    refine gfX_X0_verdict j hj C 9 iX0 (List.mem_cons_of_mem _ (List.mem_append_right _ wgL_3_6.1)) dX0_addCase_9 ?_
    refine g_aload_n C 12 0 dX0_addCase_12 rfl ?_
    refine gfX_X0_cases j hj C 13 iX0 (List.mem_cons_of_mem _ (List.mem_append_right _ wgL_2_23.1)) dX0_addCase_13 ?_
    refine g_iconst C 16 0 dX0_addCase_16 rfl ?_
    refine g_iast C 17 (10 + (13 * j + 3)) 0 (13 * j + 3) (wX_X0_verdict j hj) (wX_X0_verdict_set j hj) rfl dX0_addCase_17 (fun u1 => ?_)
    refine g_aload_n C 18 0 dX0_addCase_18 rfl ?_
    refine gfX_X0_appealed j hj C 19 iX0 (List.mem_cons_of_mem _ (List.mem_append_right _ wgL_3_7.1)) dX0_addCase_19 ?_
    refine g_aload_n C 22 0 dX0_addCase_22 rfl ?_
    refine gfX_X0_cases j hj C 23 iX0 (List.mem_cons_of_mem _ (List.mem_append_right _ wgL_2_23.1)) dX0_addCase_23 ?_
    refine g_iconst C 26 0 dX0_addCase_26 rfl ?_
    refine g_iast C 27 (10 + (13 * j + 4)) 0 (13 * j + 4) (wX_X0_appealed j hj) (wX_X0_appealed_set j hj) rfl dX0_addCase_27 (fun u2 => ?_)
    refine g_aload_n C 28 0 dX0_addCase_28 rfl ?_
    refine gfX_X0_endMinute j hj C 29 iX0 (List.mem_cons_of_mem _ (List.mem_append_right _ wgL_3_8.1)) dX0_addCase_29 ?_
    refine g_aload_n C 32 0 dX0_addCase_32 rfl ?_
    refine gfX_X0_cases j hj C 33 iX0 (List.mem_cons_of_mem _ (List.mem_append_right _ wgL_2_23.1)) dX0_addCase_33 ?_
    refine g_bipush C 36 (-4) dX0_addCase_36 rfl ?_
    refine g_iast C 38 (10 + (13 * j + 5)) 0 (13 * j + 5) (wX_X0_endMinute j hj) (wX_X0_endMinute_set j hj) rfl dX0_addCase_38 (fun u3 => ?_)
    refine g_aload_n C 39 0 dX0_addCase_39 rfl ?_
    refine gfX_X0_endJudge j hj C 40 iX0 (List.mem_cons_of_mem _ (List.mem_append_right _ wgL_3_9.1)) dX0_addCase_40 ?_
    refine g_aload_n C 43 0 dX0_addCase_43 rfl ?_
    refine gfX_X0_cases j hj C 44 iX0 (List.mem_cons_of_mem _ (List.mem_append_right _ wgL_2_23.1)) dX0_addCase_44 ?_
    refine g_bipush C 47 (-4) dX0_addCase_47 rfl ?_
    refine g_iast C 49 (10 + (13 * j + 6)) 0 (13 * j + 6) (wX_X0_endJudge j hj) (wX_X0_endJudge_set j hj) rfl dX0_addCase_49 (fun u4 => ?_)
    refine g_aload_n C 50 0 dX0_addCase_50 rfl ?_
    refine g_dup C 51 dX0_addCase_51 rfl ?_
    refine gfX_X0_cases j hj C 52 iX0 (List.mem_cons_of_mem _ (List.mem_append_right _ wgL_2_23.1)) dX0_addCase_52 ?_
    refine g_iconst C 55 1 dX0_addCase_55 rfl ?_
    refine g_iadd C 56 dX0_addCase_56 ?_
    refine pfX_X0_cases j hj C 57 iX0 (List.mem_cons_of_mem _ (List.mem_append_right _ wgL_2_23.1)) dX0_addCase_57 (fun u5 => ?_)
    exact g_vret C 60 dX0_addCase_60
def pX2_takesSign (F : Nat)  (u : St) : Option (Int32 × St) :=
  if (u.1 20) = 3 then bd (pX2_readsNext F u) (fun (r4 : Int32) (u3 : St) => gd (z01 r4) (some (r4, u3))) else bd (pX2_fails F 2 u) (fun (r2 : Int32) (u1 : St) => gd (z01 r2) (some (r2, u1)))
set_option maxRecDepth 100000 in
set_option maxHeartbeats 4000000 in
theorem tX2_takesSign {l : Launch} {D : va_G} {cI cZ : ClassId} {ad : Nat → Nat} {tBURNS tFLAME_BOUNDS : Nat} {tS : Option Nat} {adK adV : Nat → Nat} (F : Nat)  (u : St) : CtI l D [(cI, .int), (cZ, .boolean)] (wX ad cI cZ) (EX tBURNS tFLAME_BOUNDS tS adK adV) yX2_takesSign wsX2_takesSign ({ frames := 2, cells := 0, slots := 0, locals := 42 } : Room) [.ref (ad 5)] u (pX2_takesSign F u) := by
  refine ctI_of (own := RX2) (cc := cX2_takesSign) (n := 1) (ret := (some .boolean)) (by decide) rfl rfl (Nat.le_of_ble_eq_true rfl) (lv := [(0, .ref (ad 5))]) rfl (fun C => ?_)
  have iX2 : ∀ w ∈ wsX20, w ∈ wsX2_takesSign := fun w h => List.mem_cons_of_mem _ (List.mem_append_right _ (inlX2 w h))
  rw [pX2_takesSign]
  refine g_aload_n C 0 0 dX2_takesSign_0 rfl ?_
  refine gfX_X2_token C 1 iX2 (List.mem_cons_of_mem _ (List.mem_append_right _ wgL_4_1.1)) dX2_takesSign_1 ?_
  refine g_iconst C 4 3 dX2_takesSign_4 rfl ?_
  refine g_icmp_ne C 5 15 dX2_takesSign_5 (by decide) ?_ ?_
  · skip
    refine g_aload_n C 15 0 dX2_takesSign_15 rfl ?_
    refine g_iconst C 16 2 dX2_takesSign_16 rfl ?_
    refine g_callVi (st := []) (As := [.int 2]) C EX_ok EX_vm 17 5 1 (tX2_fails F 2 u) rfl gX2_takesSign_X2_fails rfl rfl rfl (by decide +kernel) ⟨Nat.le_of_ble_eq_true rfl, Nat.le_of_ble_eq_true rfl⟩ rfl rfl rfl (Nat.le_of_ble_eq_true rfl) dX2_takesSign_17 (fun r2 u1 => ?_)
    exact g_zret C 20 dX2_takesSign_20
  · skip
    refine g_aload_n C 8 0 dX2_takesSign_8 rfl ?_
    refine g_callVi (st := []) (As := []) C EX_ok EX_vm 9 5 0 (tX2_readsNext F u) rfl gX2_takesSign_X2_readsNext rfl rfl rfl (by decide +kernel) ⟨Nat.le_of_ble_eq_true rfl, Nat.le_of_ble_eq_true rfl⟩ rfl rfl rfl (Nat.le_of_ble_eq_true rfl) dX2_takesSign_9 (fun r4 u3 => ?_)
    refine g_goto C 12 20 dX2_takesSign_12 (by decide) ?_
    exact g_zret C 20 dX2_takesSign_20
def pX2_takesCase (F : Nat)  (u : St) : Option (Int32 × St) :=
  if (u.1 12) < 4 then bd (pX2_readsNext F u) (fun (r2 : Int32) (u1 : St) => if r2 = 0 then some (0, u1) else bd (pX2_takesFlame F (2 * (u1.1 12)) u1) (fun (r4 : Int32) (u3 : St) => if r4 = 0 then some (0, u3) else bd (pX2_takesFlame F ((2 * (u3.1 12)) + 1) u3) (fun (r6 : Int32) (u5 : St) => if r6 = 0 then some (0, u5) else bd (pX0_addCase F 3 u5) (fun (_ : Unit) (u7 : St) => bd (pX2_takesSign F u7) (fun (r9 : Int32) (u8 : St) => gd (z01 r9) (some (r9, u8))))))) else bd (pX2_fails F 5 u) (fun (r11 : Int32) (u10 : St) => gd (z01 r11) (some (r11, u10)))
set_option maxRecDepth 100000 in
set_option maxHeartbeats 4000000 in
theorem tX2_takesCase {l : Launch} {D : va_G} {cI cZ : ClassId} {ad : Nat → Nat} {tBURNS tFLAME_BOUNDS : Nat} {tS : Option Nat} {adK adV : Nat → Nat} (F : Nat)  (u : St) : CtI l D [(cI, .int), (cZ, .boolean)] (wX ad cI cZ) (EX tBURNS tFLAME_BOUNDS tS adK adV) yX2_takesCase wsX2_takesCase ({ frames := 7, cells := 0, slots := 0, locals := 149 } : Room) [.ref (ad 5)] u (pX2_takesCase F u) := by
  refine ctI_of (own := RX2) (cc := cX2_takesCase) (n := 1) (ret := (some .boolean)) (by decide) rfl rfl (Nat.le_of_ble_eq_true rfl) (lv := [(0, .ref (ad 5))]) rfl (fun C => ?_)
  have iX0 : ∀ w ∈ wsX00, w ∈ wsX2_takesCase := fun w h => List.mem_cons_of_mem _ (List.mem_append_right _ (inlX0 w h))
  have iX2 : ∀ w ∈ wsX20, w ∈ wsX2_takesCase := fun w h => List.mem_cons_of_mem _ (List.mem_append_right _ (inlX2 w h))
  rw [pX2_takesCase]
  refine g_aload_n C 0 0 dX2_takesCase_0 rfl ?_
  refine gfX_X2_told C 1 iX2 (List.mem_cons_of_mem _ (List.mem_append_right _ wgL_3_21.1)) dX2_takesCase_1 ?_
  refine gfX_X0_cases 3 (by decide) C 4 iX0 (List.mem_cons_of_mem _ (List.mem_append_right _ wgL_11_7.1)) dX2_takesCase_4 ?_
  refine g_iconst C 7 4 dX2_takesCase_7 rfl ?_
  refine g_icmp_lt C 8 17 dX2_takesCase_8 (by decide) ?_ ?_
  · skip
    refine g_aload_n C 17 0 dX2_takesCase_17 rfl ?_
    refine g_callVi (st := []) (As := []) C EX_ok EX_vm 18 5 0 (tX2_readsNext F u) rfl gX2_takesCase_X2_readsNext rfl rfl rfl (by decide +kernel) ⟨Nat.le_of_ble_eq_true rfl, Nat.le_of_ble_eq_true rfl⟩ rfl rfl rfl (Nat.le_of_ble_eq_true rfl) dX2_takesCase_18 (fun r2 u1 => ?_)
    refine g_if_eq C 21 58 dX2_takesCase_21 (by decide) ?_ ?_
    · skip
      refine g_iconst C 58 0 dX2_takesCase_58 rfl ?_
      exact g_nret C 59 rfl dX2_takesCase_59
    · skip
      refine g_aload_n C 24 0 dX2_takesCase_24 rfl ?_
      refine g_iconst C 25 2 dX2_takesCase_25 rfl ?_
      refine g_aload_n C 26 0 dX2_takesCase_26 rfl ?_
      refine gfX_X2_told C 27 iX2 (List.mem_cons_of_mem _ (List.mem_append_right _ wgL_3_21.1)) dX2_takesCase_27 ?_
      refine gfX_X0_cases 3 (by decide) C 30 iX0 (List.mem_cons_of_mem _ (List.mem_append_right _ wgL_11_7.1)) dX2_takesCase_30 ?_
      refine g_imul C 33 dX2_takesCase_33 ?_
      refine g_callVi (st := []) (As := [.int (2 * (u1.1 12))]) C EX_ok EX_vm 34 5 1 (tX2_takesFlame F (2 * (u1.1 12)) u1) rfl gX2_takesCase_X2_takesFlame rfl rfl rfl (by decide +kernel) ⟨Nat.le_of_ble_eq_true rfl, Nat.le_of_ble_eq_true rfl⟩ rfl rfl rfl (Nat.le_of_ble_eq_true rfl) dX2_takesCase_34 (fun r4 u3 => ?_)
      refine g_if_eq C 37 58 dX2_takesCase_37 (by decide) ?_ ?_
      · skip
        refine g_iconst C 58 0 dX2_takesCase_58 rfl ?_
        exact g_nret C 59 rfl dX2_takesCase_59
      · skip
        refine g_aload_n C 40 0 dX2_takesCase_40 rfl ?_
        refine g_iconst C 41 2 dX2_takesCase_41 rfl ?_
        refine g_aload_n C 42 0 dX2_takesCase_42 rfl ?_
        refine gfX_X2_told C 43 iX2 (List.mem_cons_of_mem _ (List.mem_append_right _ wgL_3_21.1)) dX2_takesCase_43 ?_
        refine gfX_X0_cases 3 (by decide) C 46 iX0 (List.mem_cons_of_mem _ (List.mem_append_right _ wgL_11_7.1)) dX2_takesCase_46 ?_
        refine g_imul C 49 dX2_takesCase_49 ?_
        refine g_iconst C 50 1 dX2_takesCase_50 rfl ?_
        refine g_iadd C 51 dX2_takesCase_51 ?_
        refine g_callVi (st := []) (As := [.int ((2 * (u3.1 12)) + 1)]) C EX_ok EX_vm 52 5 1 (tX2_takesFlame F ((2 * (u3.1 12)) + 1) u3) rfl gX2_takesCase_X2_takesFlame rfl rfl rfl (by decide +kernel) ⟨Nat.le_of_ble_eq_true rfl, Nat.le_of_ble_eq_true rfl⟩ rfl rfl rfl (Nat.le_of_ble_eq_true rfl) dX2_takesCase_52 (fun r6 u5 => ?_)
        refine g_if_ne C 55 60 dX2_takesCase_55 (by decide) ?_ ?_
        · skip
          refine g_aload_n C 60 0 dX2_takesCase_60 rfl ?_
          refine gfX_X2_told C 61 iX2 (List.mem_cons_of_mem _ (List.mem_append_right _ wgL_3_21.1)) dX2_takesCase_61 ?_
          refine g_callVv (st := []) (As := []) C EX_ok EX_vm 64 4 0 (tX0_addCase F 3 (by decide) u5) rfl gX2_takesCase_X0_addCase rfl rfl rfl (by decide +kernel) ⟨Nat.le_of_ble_eq_true rfl, Nat.le_of_ble_eq_true rfl⟩ (wX_X0 ad cI cZ _ 3 (by decide)) rfl rfl (Nat.le_of_ble_eq_true rfl) dX2_takesCase_64 (fun u7 => ?_)
          refine g_aload_n C 67 0 dX2_takesCase_67 rfl ?_
          refine g_callVi (st := []) (As := []) C EX_ok EX_vm 68 5 0 (tX2_takesSign F u7) rfl gX2_takesCase_X2_takesSign rfl rfl rfl (by decide +kernel) ⟨Nat.le_of_ble_eq_true rfl, Nat.le_of_ble_eq_true rfl⟩ rfl rfl rfl (Nat.le_of_ble_eq_true rfl) dX2_takesCase_68 (fun r9 u8 => ?_)
          exact g_zret C 71 dX2_takesCase_71
        · skip
          refine g_iconst C 58 0 dX2_takesCase_58 rfl ?_
          exact g_nret C 59 rfl dX2_takesCase_59
  · skip
    refine g_aload_n C 11 0 dX2_takesCase_11 rfl ?_
    refine g_iconst C 12 5 dX2_takesCase_12 rfl ?_
    refine g_callVi (st := []) (As := [.int 5]) C EX_ok EX_vm 13 5 1 (tX2_fails F 5 u) rfl gX2_takesCase_X2_fails rfl rfl rfl (by decide +kernel) ⟨Nat.le_of_ble_eq_true rfl, Nat.le_of_ble_eq_true rfl⟩ rfl rfl rfl (Nat.le_of_ble_eq_true rfl) dX2_takesCase_13 (fun r11 u10 => ?_)
    exact g_zret C 16 dX2_takesCase_16
def pX0_addDraught (F : Nat) (j : Nat) (p1 : Int32) (p2 : Int32) (u : St) : Option (Int32 × St) :=
  if (u.1 (4 * j + 2)) < 4 then gd (inb (u.1 (4 * j + 2)) 4) (vl (sta u (13 * j + 9) (u.1 (4 * j + 2)) p1) (fun (u1 : St) => gd (inb (u1.1 (4 * j + 2)) 4) (vl (sta u1 (13 * j + 10) (u1.1 (4 * j + 2)) p2) (fun (u2 : St) => vl (stf u2 (4 * j + 2) ((u2.1 (4 * j + 2)) + 1)) (fun (u3 : St) => some (1, u3)))))) else some (0, u)
set_option maxRecDepth 100000 in
set_option maxHeartbeats 4000000 in
theorem tX0_addDraught {l : Launch} {D : va_G} {cI cZ : ClassId} {ad : Nat → Nat} {tBURNS tFLAME_BOUNDS : Nat} {tS : Option Nat} {adK adV : Nat → Nat} (F : Nat) (j : Nat) (hj : j < 4) (p1 : Int32) (p2 : Int32) (u : St) : CtI l D [(cI, .int), (cZ, .boolean)] (wX ad cI cZ) (EX tBURNS tFLAME_BOUNDS tS adK adV) yX0_addDraught wsX0_addDraught ({ frames := 0, cells := 0, slots := 0, locals := 0 } : Room) [.ref (ad (1 + j)), .int p1, .int p2] u (pX0_addDraught F j p1 p2 u) := by
  refine ctI_of (own := RX0) (cc := cX0_addDraught) (n := 3) (ret := (some .boolean)) (by decide) rfl rfl (Nat.le_of_ble_eq_true rfl) (lv := [(0, .ref (ad (1 + j))), (1, .int p1), (2, .int p2)]) rfl (fun C => ?_)
  have iX0 : ∀ w ∈ wsX00, w ∈ wsX0_addDraught := fun w h => List.mem_cons_of_mem _ (List.mem_append_right _ (inlX0 w h))
  rw [pX0_addDraught]
  refine g_aload_n C 0 0 dX0_addDraught_0 rfl ?_
  refine gfX_X0_draughts j hj C 1 iX0 (List.mem_cons_of_mem _ (List.mem_append_right _ wgL_3_1.1)) dX0_addDraught_1 ?_
  refine g_iconst C 4 4 dX0_addDraught_4 rfl ?_
  refine g_icmp_lt C 5 10 dX0_addDraught_5 (by decide) ?_ ?_
  · skip
    refine g_aload_n C 10 0 dX0_addDraught_10 rfl ?_
    refine gfX_X0_minute j hj C 11 iX0 (List.mem_cons_of_mem _ (List.mem_append_right _ wgL_3_12.1)) dX0_addDraught_11 ?_
    refine g_aload_n C 14 0 dX0_addDraught_14 rfl ?_
    refine gfX_X0_draughts j hj C 15 iX0 (List.mem_cons_of_mem _ (List.mem_append_right _ wgL_3_1.1)) dX0_addDraught_15 ?_
    refine g_iload_n C 18 1 dX0_addDraught_18 rfl ?_
    refine g_iast C 19 (10 + (13 * j + 9)) 0 (13 * j + 9) (wX_X0_minute j hj) (wX_X0_minute_set j hj) rfl dX0_addDraught_19 (fun u1 => ?_)
    refine g_aload_n C 20 0 dX0_addDraught_20 rfl ?_
    refine gfX_X0_strength j hj C 21 iX0 (List.mem_cons_of_mem _ (List.mem_append_right _ wgL_3_13.1)) dX0_addDraught_21 ?_
    refine g_aload_n C 24 0 dX0_addDraught_24 rfl ?_
    refine gfX_X0_draughts j hj C 25 iX0 (List.mem_cons_of_mem _ (List.mem_append_right _ wgL_3_1.1)) dX0_addDraught_25 ?_
    refine g_iload_n C 28 2 dX0_addDraught_28 rfl ?_
    refine g_iast C 29 (10 + (13 * j + 10)) 0 (13 * j + 10) (wX_X0_strength j hj) (wX_X0_strength_set j hj) rfl dX0_addDraught_29 (fun u2 => ?_)
    refine g_aload_n C 30 0 dX0_addDraught_30 rfl ?_
    refine g_dup C 31 dX0_addDraught_31 rfl ?_
    refine gfX_X0_draughts j hj C 32 iX0 (List.mem_cons_of_mem _ (List.mem_append_right _ wgL_3_1.1)) dX0_addDraught_32 ?_
    refine g_iconst C 35 1 dX0_addDraught_35 rfl ?_
    refine g_iadd C 36 dX0_addDraught_36 ?_
    refine pfX_X0_draughts j hj C 37 iX0 (List.mem_cons_of_mem _ (List.mem_append_right _ wgL_3_1.1)) dX0_addDraught_37 (fun u3 => ?_)
    refine g_iconst C 40 1 dX0_addDraught_40 rfl ?_
    exact g_nret C 41 rfl dX0_addDraught_41
  · skip
    refine g_iconst C 8 0 dX0_addDraught_8 rfl ?_
    exact g_nret C 9 rfl dX0_addDraught_9
end
section
def pX2_takesDraught (F : Nat)  (u : St) : Option (Int32 × St) :=
  if (u.1 14) < 4 then bd (pX2_readsNumber F 0 20 u) (fun (r2 : Int32) (u1 : St) => if r2 = 0 then some (0, u1) else vl (u1.1 23) (fun v3 => bd (pX2_readsNumber F 1 9 u1) (fun (r5 : Int32) (u4 : St) => if r5 = 0 then some (0, u4) else bd (pX0_addDraught F 3 v3 (u4.1 23) u4) (fun (r7 : Int32) (u6 : St) => bd (pX2_readsNext F u6) (fun (r9 : Int32) (u8 : St) => if r9 = 0 then some (0, u8) else bd (pX2_takesSign F u8) (fun (r11 : Int32) (u10 : St) => if r11 = 0 then some (0, u10) else some (1, u10))))))) else bd (pX2_fails F 5 u) (fun (r13 : Int32) (u12 : St) => gd (z01 r13) (some (r13, u12)))
set_option maxRecDepth 100000 in
set_option maxHeartbeats 4000000 in
theorem tX2_takesDraught {l : Launch} {D : va_G} {cI cZ : ClassId} {ad : Nat → Nat} {tBURNS tFLAME_BOUNDS : Nat} {tS : Option Nat} {adK adV : Nat → Nat} (F : Nat)  (u : St) : CtI l D [(cI, .int), (cZ, .boolean)] (wX ad cI cZ) (EX tBURNS tFLAME_BOUNDS tS adK adV) yX2_takesDraught wsX2_takesDraught ({ frames := 3, cells := 0, slots := 0, locals := 67 } : Room) [.ref (ad 5)] u (pX2_takesDraught F u) := by
  refine ctI_of (own := RX2) (cc := cX2_takesDraught) (n := 2) (ret := (some .boolean)) (by decide) rfl rfl (Nat.le_of_ble_eq_true rfl) (lv := [(0, .ref (ad 5))]) rfl (fun C => ?_)
  have iX0 : ∀ w ∈ wsX00, w ∈ wsX2_takesDraught := fun w h => List.mem_cons_of_mem _ (List.mem_append_right _ (inlX0 w h))
  have iX2 : ∀ w ∈ wsX20, w ∈ wsX2_takesDraught := fun w h => List.mem_cons_of_mem _ (List.mem_append_right _ (inlX2 w h))
  rw [pX2_takesDraught]
  refine g_aload_n C 0 0 dX2_takesDraught_0 rfl ?_
  refine gfX_X2_told C 1 iX2 (List.mem_cons_of_mem _ (List.mem_append_right _ wgL_3_21.1)) dX2_takesDraught_1 ?_
  refine gfX_X0_draughts 3 (by decide) C 4 iX0 (List.mem_cons_of_mem _ (List.mem_append_right _ wgL_12_15.1)) dX2_takesDraught_4 ?_
  refine g_iconst C 7 4 dX2_takesDraught_7 rfl ?_
  refine g_icmp_lt C 8 17 dX2_takesDraught_8 (by decide) ?_ ?_
  · skip
    refine g_aload_n C 17 0 dX2_takesDraught_17 rfl ?_
    refine g_iconst C 18 0 dX2_takesDraught_18 rfl ?_
    refine g_bipush C 19 20 dX2_takesDraught_19 rfl ?_
    refine g_callVi (st := []) (As := [.int 0, .int 20]) C EX_ok EX_vm 21 5 2 (tX2_readsNumber F 0 20 u) rfl gX2_takesDraught_X2_readsNumber rfl rfl rfl (by decide +kernel) ⟨Nat.le_of_ble_eq_true rfl, Nat.le_of_ble_eq_true rfl⟩ rfl rfl rfl (Nat.le_of_ble_eq_true rfl) dX2_takesDraught_21 (fun r2 u1 => ?_)
    refine g_if_ne C 24 29 dX2_takesDraught_24 (by decide) ?_ ?_
    · skip
      refine g_aload_n C 29 0 dX2_takesDraught_29 rfl ?_
      refine gfX_X2_number C 30 iX2 (List.mem_cons_of_mem _ (List.mem_append_right _ wgL_4_4.1)) dX2_takesDraught_30 ?_
      refine g_istore_nV C 33 (fun v3 => [(1, .int v3), (0, .ref (ad 5))]) dX2_takesDraught_33 (by decide) (fun _ => rfl) (fun v3 => ?_)
      refine g_aload_n C 34 1 dX2_takesDraught_34 rfl ?_
      refine g_iconst C 35 1 dX2_takesDraught_35 rfl ?_
      refine g_bipush C 36 9 dX2_takesDraught_36 rfl ?_
      refine g_callVi (st := []) (As := [.int 1, .int 9]) C EX_ok EX_vm 38 5 2 (tX2_readsNumber F 1 9 u1) rfl gX2_takesDraught_X2_readsNumber rfl rfl rfl (by decide +kernel) ⟨Nat.le_of_ble_eq_true rfl, Nat.le_of_ble_eq_true rfl⟩ rfl rfl rfl (Nat.le_of_ble_eq_true rfl) dX2_takesDraught_38 (fun r5 u4 => ?_)
      refine g_if_ne C 41 46 dX2_takesDraught_41 (by decide) ?_ ?_
      · skip
        refine g_aload_n C 46 1 dX2_takesDraught_46 rfl ?_
        refine gfX_X2_told C 47 iX2 (List.mem_cons_of_mem _ (List.mem_append_right _ wgL_3_21.1)) dX2_takesDraught_47 ?_
        refine g_iload_n C 50 0 dX2_takesDraught_50 rfl ?_
        refine g_aload_n C 51 1 dX2_takesDraught_51 rfl ?_
        refine gfX_X2_number C 52 iX2 (List.mem_cons_of_mem _ (List.mem_append_right _ wgL_4_4.1)) dX2_takesDraught_52 ?_
        refine g_callVi (st := []) (As := [.int v3, .int (u4.1 23)]) C EX_ok EX_vm 55 4 2 (tX0_addDraught F 3 (by decide) v3 (u4.1 23) u4) rfl gX2_takesDraught_X0_addDraught rfl rfl rfl (by decide +kernel) ⟨Nat.le_of_ble_eq_true rfl, Nat.le_of_ble_eq_true rfl⟩ (wX_X0 ad cI cZ _ 3 (by decide)) rfl rfl (Nat.le_of_ble_eq_true rfl) dX2_takesDraught_55 (fun r7 u6 => ?_)
        refine g_pop C 58 dX2_takesDraught_58 rfl ?_
        refine g_aload_n C 59 1 dX2_takesDraught_59 rfl ?_
        refine g_callVi (st := []) (As := []) C EX_ok EX_vm 60 5 0 (tX2_readsNext F u6) rfl gX2_takesDraught_X2_readsNext rfl rfl rfl (by decide +kernel) ⟨Nat.le_of_ble_eq_true rfl, Nat.le_of_ble_eq_true rfl⟩ rfl rfl rfl (Nat.le_of_ble_eq_true rfl) dX2_takesDraught_60 (fun r9 u8 => ?_)
        refine g_if_eq C 63 77 dX2_takesDraught_63 (by decide) ?_ ?_
        · skip
          refine g_iconst C 77 0 dX2_takesDraught_77 rfl ?_
          exact g_nret C 78 rfl dX2_takesDraught_78
        · skip
          refine g_aload_n C 66 1 dX2_takesDraught_66 rfl ?_
          refine g_callVi (st := []) (As := []) C EX_ok EX_vm 67 5 0 (tX2_takesSign F u8) rfl gX2_takesDraught_X2_takesSign rfl rfl rfl (by decide +kernel) ⟨Nat.le_of_ble_eq_true rfl, Nat.le_of_ble_eq_true rfl⟩ rfl rfl rfl (Nat.le_of_ble_eq_true rfl) dX2_takesDraught_67 (fun r11 u10 => ?_)
          refine g_if_eq C 70 77 dX2_takesDraught_70 (by decide) ?_ ?_
          · skip
            refine g_iconst C 77 0 dX2_takesDraught_77 rfl ?_
            exact g_nret C 78 rfl dX2_takesDraught_78
          · skip
            refine g_iconst C 73 1 dX2_takesDraught_73 rfl ?_
            refine g_goto C 74 78 dX2_takesDraught_74 (by decide) ?_
            exact g_nret C 78 rfl dX2_takesDraught_78
      · skip
        refine g_iconst C 44 0 dX2_takesDraught_44 rfl ?_
        exact g_nret C 45 rfl dX2_takesDraught_45
    · skip
      refine g_iconst C 27 0 dX2_takesDraught_27 rfl ?_
      exact g_nret C 28 rfl dX2_takesDraught_28
  · skip
    refine g_aload_n C 11 0 dX2_takesDraught_11 rfl ?_
    refine g_iconst C 12 5 dX2_takesDraught_12 rfl ?_
    refine g_callVi (st := []) (As := [.int 5]) C EX_ok EX_vm 13 5 1 (tX2_fails F 5 u) rfl gX2_takesDraught_X2_fails rfl rfl rfl (by decide +kernel) ⟨Nat.le_of_ble_eq_true rfl, Nat.le_of_ble_eq_true rfl⟩ rfl rfl rfl (Nat.le_of_ble_eq_true rfl) dX2_takesDraught_13 (fun r13 u12 => ?_)
    exact g_zret C 16 dX2_takesDraught_16
def pX0_addHearing (F : Nat) (j : Nat) (p1 : Int32) (p2 : Int32) (u : St) : Option (Int32 × St) :=
  if (u.1 (4 * j + 3)) < 6 then gd (inb (u.1 (4 * j + 3)) 6) (vl (sta u (13 * j + 11) (u.1 (4 * j + 3)) p1) (fun (u1 : St) => gd (inb (u1.1 (4 * j + 3)) 6) (vl (sta u1 (13 * j + 12) (u1.1 (4 * j + 3)) p2) (fun (u2 : St) => vl (stf u2 (4 * j + 3) ((u2.1 (4 * j + 3)) + 1)) (fun (u3 : St) => some (1, u3)))))) else some (0, u)
set_option maxRecDepth 100000 in
set_option maxHeartbeats 4000000 in
theorem tX0_addHearing {l : Launch} {D : va_G} {cI cZ : ClassId} {ad : Nat → Nat} {tBURNS tFLAME_BOUNDS : Nat} {tS : Option Nat} {adK adV : Nat → Nat} (F : Nat) (j : Nat) (hj : j < 4) (p1 : Int32) (p2 : Int32) (u : St) : CtI l D [(cI, .int), (cZ, .boolean)] (wX ad cI cZ) (EX tBURNS tFLAME_BOUNDS tS adK adV) yX0_addHearing wsX0_addHearing ({ frames := 0, cells := 0, slots := 0, locals := 0 } : Room) [.ref (ad (1 + j)), .int p1, .int p2] u (pX0_addHearing F j p1 p2 u) := by
  refine ctI_of (own := RX0) (cc := cX0_addHearing) (n := 3) (ret := (some .boolean)) (by decide) rfl rfl (Nat.le_of_ble_eq_true rfl) (lv := [(0, .ref (ad (1 + j))), (1, .int p1), (2, .int p2)]) rfl (fun C => ?_)
  have iX0 : ∀ w ∈ wsX00, w ∈ wsX0_addHearing := fun w h => List.mem_cons_of_mem _ (List.mem_append_right _ (inlX0 w h))
  rw [pX0_addHearing]
  refine g_aload_n C 0 0 dX0_addHearing_0 rfl ?_
  refine gfX_X0_hearings j hj C 1 iX0 (List.mem_cons_of_mem _ (List.mem_append_right _ wgL_3_2.1)) dX0_addHearing_1 ?_
  refine g_bipush C 4 6 dX0_addHearing_4 rfl ?_
  refine g_icmp_lt C 6 11 dX0_addHearing_6 (by decide) ?_ ?_
  · skip
    refine g_aload_n C 11 0 dX0_addHearing_11 rfl ?_
    refine gfX_X0_docketCase j hj C 12 iX0 (List.mem_cons_of_mem _ (List.mem_append_right _ wgL_3_14.1)) dX0_addHearing_12 ?_
    refine g_aload_n C 15 0 dX0_addHearing_15 rfl ?_
    refine gfX_X0_hearings j hj C 16 iX0 (List.mem_cons_of_mem _ (List.mem_append_right _ wgL_3_2.1)) dX0_addHearing_16 ?_
    refine g_iload_n C 19 1 dX0_addHearing_19 rfl ?_
    refine g_iast C 20 (10 + (13 * j + 11)) 0 (13 * j + 11) (wX_X0_docketCase j hj) (wX_X0_docketCase_set j hj) rfl dX0_addHearing_20 (fun u1 => ?_)
    refine g_aload_n C 21 0 dX0_addHearing_21 rfl ?_
    refine gfX_X0_docketJudge j hj C 22 iX0 (List.mem_cons_of_mem _ (List.mem_append_right _ wgL_3_15.1)) dX0_addHearing_22 ?_
    refine g_aload_n C 25 0 dX0_addHearing_25 rfl ?_
    refine gfX_X0_hearings j hj C 26 iX0 (List.mem_cons_of_mem _ (List.mem_append_right _ wgL_3_2.1)) dX0_addHearing_26 ?_
    refine g_iload_n C 29 2 dX0_addHearing_29 rfl ?_
    refine g_iast C 30 (10 + (13 * j + 12)) 0 (13 * j + 12) (wX_X0_docketJudge j hj) (wX_X0_docketJudge_set j hj) rfl dX0_addHearing_30 (fun u2 => ?_)
    refine g_aload_n C 31 0 dX0_addHearing_31 rfl ?_
    refine g_dup C 32 dX0_addHearing_32 rfl ?_
    refine gfX_X0_hearings j hj C 33 iX0 (List.mem_cons_of_mem _ (List.mem_append_right _ wgL_3_2.1)) dX0_addHearing_33 ?_
    refine g_iconst C 36 1 dX0_addHearing_36 rfl ?_
    refine g_iadd C 37 dX0_addHearing_37 ?_
    refine pfX_X0_hearings j hj C 38 iX0 (List.mem_cons_of_mem _ (List.mem_append_right _ wgL_3_2.1)) dX0_addHearing_38 (fun u3 => ?_)
    refine g_iconst C 41 1 dX0_addHearing_41 rfl ?_
    exact g_nret C 42 rfl dX0_addHearing_42
  · skip
    refine g_iconst C 9 0 dX0_addHearing_9 rfl ?_
    exact g_nret C 10 rfl dX0_addHearing_10
def pX2_takesHearing (F : Nat)  (u : St) : Option (Int32 × St) :=
  bd (pX2_isNumberIn F 0 3 u) (fun (r2 : Int32) (u1 : St) => if r2 = 0 then some (0, u1) else vl (u1.1 23) (fun v3 => bd (pX2_readsNumber F 0 2 u1) (fun (r5 : Int32) (u4 : St) => if r5 = 0 then some (0, u4) else bd (pX0_addHearing F 3 v3 (u4.1 23) u4) (fun (r7 : Int32) (u6 : St) => bd (pX2_readsNext F u6) (fun (r9 : Int32) (u8 : St) => gd (z01 r9) (some (r9, u8)))))))
set_option maxRecDepth 100000 in
set_option maxHeartbeats 4000000 in
theorem tX2_takesHearing {l : Launch} {D : va_G} {cI cZ : ClassId} {ad : Nat → Nat} {tBURNS tFLAME_BOUNDS : Nat} {tS : Option Nat} {adK adV : Nat → Nat} (F : Nat)  (u : St) : CtI l D [(cI, .int), (cZ, .boolean)] (wX ad cI cZ) (EX tBURNS tFLAME_BOUNDS tS adK adV) yX2_takesHearing wsX2_takesHearing ({ frames := 3, cells := 0, slots := 0, locals := 67 } : Room) [.ref (ad 5)] u (pX2_takesHearing F u) := by
  refine ctI_of (own := RX2) (cc := cX2_takesHearing) (n := 2) (ret := (some .boolean)) (by decide) rfl rfl (Nat.le_of_ble_eq_true rfl) (lv := [(0, .ref (ad 5))]) rfl (fun C => ?_)
  have iX2 : ∀ w ∈ wsX20, w ∈ wsX2_takesHearing := fun w h => List.mem_cons_of_mem _ (List.mem_append_right _ (inlX2 w h))
  rw [pX2_takesHearing]
  refine g_aload_n C 0 0 dX2_takesHearing_0 rfl ?_
  refine g_iconst C 1 0 dX2_takesHearing_1 rfl ?_
  refine g_iconst C 2 3 dX2_takesHearing_2 rfl ?_
  refine g_callVi (st := []) (As := [.int 0, .int 3]) C EX_ok EX_vm 3 5 2 (tX2_isNumberIn F 0 3 u) rfl gX2_takesHearing_X2_isNumberIn rfl rfl rfl (by decide +kernel) ⟨Nat.le_of_ble_eq_true rfl, Nat.le_of_ble_eq_true rfl⟩ rfl rfl rfl (Nat.le_of_ble_eq_true rfl) dX2_takesHearing_3 (fun r2 u1 => ?_)
  refine g_if_ne C 6 11 dX2_takesHearing_6 (by decide) ?_ ?_
  · skip
    refine g_aload_n C 11 0 dX2_takesHearing_11 rfl ?_
    refine gfX_X2_number C 12 iX2 (List.mem_cons_of_mem _ (List.mem_append_right _ wgL_4_4.1)) dX2_takesHearing_12 ?_
    refine g_istore_nV C 15 (fun v3 => [(1, .int v3), (0, .ref (ad 5))]) dX2_takesHearing_15 (by decide) (fun _ => rfl) (fun v3 => ?_)
    refine g_aload_n C 16 1 dX2_takesHearing_16 rfl ?_
    refine g_iconst C 17 0 dX2_takesHearing_17 rfl ?_
    refine g_iconst C 18 2 dX2_takesHearing_18 rfl ?_
    refine g_callVi (st := []) (As := [.int 0, .int 2]) C EX_ok EX_vm 19 5 2 (tX2_readsNumber F 0 2 u1) rfl gX2_takesHearing_X2_readsNumber rfl rfl rfl (by decide +kernel) ⟨Nat.le_of_ble_eq_true rfl, Nat.le_of_ble_eq_true rfl⟩ rfl rfl rfl (Nat.le_of_ble_eq_true rfl) dX2_takesHearing_19 (fun r5 u4 => ?_)
    refine g_if_ne C 22 27 dX2_takesHearing_22 (by decide) ?_ ?_
    · skip
      refine g_aload_n C 27 1 dX2_takesHearing_27 rfl ?_
      refine gfX_X2_told C 28 iX2 (List.mem_cons_of_mem _ (List.mem_append_right _ wgL_3_21.1)) dX2_takesHearing_28 ?_
      refine g_iload_n C 31 0 dX2_takesHearing_31 rfl ?_
      refine g_aload_n C 32 1 dX2_takesHearing_32 rfl ?_
      refine gfX_X2_number C 33 iX2 (List.mem_cons_of_mem _ (List.mem_append_right _ wgL_4_4.1)) dX2_takesHearing_33 ?_
      refine g_callVi (st := []) (As := [.int v3, .int (u4.1 23)]) C EX_ok EX_vm 36 4 2 (tX0_addHearing F 3 (by decide) v3 (u4.1 23) u4) rfl gX2_takesHearing_X0_addHearing rfl rfl rfl (by decide +kernel) ⟨Nat.le_of_ble_eq_true rfl, Nat.le_of_ble_eq_true rfl⟩ (wX_X0 ad cI cZ _ 3 (by decide)) rfl rfl (Nat.le_of_ble_eq_true rfl) dX2_takesHearing_36 (fun r7 u6 => ?_)
      refine g_pop C 39 dX2_takesHearing_39 rfl ?_
      refine g_aload_n C 40 1 dX2_takesHearing_40 rfl ?_
      refine g_callVi (st := []) (As := []) C EX_ok EX_vm 41 5 0 (tX2_readsNext F u6) rfl gX2_takesHearing_X2_readsNext rfl rfl rfl (by decide +kernel) ⟨Nat.le_of_ble_eq_true rfl, Nat.le_of_ble_eq_true rfl⟩ rfl rfl rfl (Nat.le_of_ble_eq_true rfl) dX2_takesHearing_41 (fun r9 u8 => ?_)
      exact g_zret C 44 dX2_takesHearing_44
    · skip
      refine g_iconst C 25 0 dX2_takesHearing_25 rfl ?_
      exact g_nret C 26 rfl dX2_takesHearing_26
  · skip
    refine g_iconst C 9 0 dX2_takesHearing_9 rfl ?_
    exact g_nret C 10 rfl dX2_takesHearing_10
def jX2_takesDocket_58 (F : Nat)   (u4 : St) : Option (Int32 × St) :=
  jn (fun (a5 : Int32) (u6 : St) => if a5 = 0 then bd (pX2_takesSign F u6) (fun (r8 : Int32) (u7 : St) => gd (z01 r8) (some (r8, u7))) else bd (pX2_fails F 5 u6) (fun (r10 : Int32) (u9 : St) => gd (z01 r10) (some (r10, u9)))) (fun (J90 : Int32 → St → Option (Int32 × St)) => jn (fun (u11 : St) => (J90 0 u11)) (fun (J89 : St → Option (Int32 × St)) => if (u4.1 15) < 6 then (J89 u4) else if (u4.1 20) = 3 then (J89 u4) else if (u4.1 20) = 0 then (J89 u4) else (J90 1 u4)))
def bX2_takesDocket_29 (F : Nat) (J58 : St → Option (Int32 × St)) (self14 : Int32 → St → Option (Int32 × St)) (x12 : Int32) (u13 : St) : Option (Int32 × St) :=
  if 6 ≤ x12 then (J58 u13) else if (u13.1 20) = 2 then bd (pX2_takesHearing F u13) (fun (r16 : Int32) (u15 : St) => if r16 = 0 then some (0, u15) else (self14 (x12 + 1) u15)) else (J58 u13)
def pX2_takesDocket (F : Nat)  (u : St) : Option (Int32 × St) :=
  if (u.1 19) = 0 then gd (z01 1) (vl (stf u 19 1) (fun (u1 : St) => bd (pX2_readsNext F u1) (fun (r3 : Int32) (u2 : St) => if r3 = 0 then some (0, u2) else jn (jX2_takesDocket_58 F) (fun (J58 : St → Option (Int32 × St)) => (lq1 (bX2_takesDocket_29 F J58) F 0 u2))))) else bd (pX2_fails F 4 u) (fun (r18 : Int32) (u17 : St) => gd (z01 r18) (some (r18, u17)))
set_option maxRecDepth 100000 in
set_option maxHeartbeats 4000000 in
theorem tX2_takesDocket {l : Launch} {D : va_G} {cI cZ : ClassId} {ad : Nat → Nat} {tBURNS tFLAME_BOUNDS : Nat} {tS : Option Nat} {adK adV : Nat → Nat} (F : Nat)  (u : St) : CtI l D [(cI, .int), (cZ, .boolean)] (wX ad cI cZ) (EX tBURNS tFLAME_BOUNDS tS adK adV) yX2_takesDocket wsX2_takesDocket ({ frames := 4, cells := 0, slots := 0, locals := 88 } : Room) [.ref (ad 5)] u (pX2_takesDocket F u) := by
  refine ctI_of (own := RX2) (cc := cX2_takesDocket) (n := 2) (ret := (some .boolean)) (by decide) rfl rfl (Nat.le_of_ble_eq_true rfl) (lv := [(0, .ref (ad 5))]) rfl (fun C => ?_)
  have iX0 : ∀ w ∈ wsX00, w ∈ wsX2_takesDocket := fun w h => List.mem_cons_of_mem _ (List.mem_append_right _ (inlX0 w h))
  have iX2 : ∀ w ∈ wsX20, w ∈ wsX2_takesDocket := fun w h => List.mem_cons_of_mem _ (List.mem_append_right _ (inlX2 w h))
  rw [pX2_takesDocket]
  refine g_aload_n C 0 0 dX2_takesDocket_0 rfl ?_
  refine gfX_X2_docketTold C 1 iX2 (List.mem_cons_of_mem _ (List.mem_append_right _ wgL_4_0.1)) dX2_takesDocket_1 ?_
  refine g_if_eq C 4 13 dX2_takesDocket_4 (by decide) ?_ ?_
  · skip
    refine g_aload_n C 13 0 dX2_takesDocket_13 rfl ?_
    refine g_iconst C 14 1 dX2_takesDocket_14 rfl ?_
    refine pfX_X2_docketTold C 15 iX2 (List.mem_cons_of_mem _ (List.mem_append_right _ wgL_4_0.1)) dX2_takesDocket_15 (fun u1 => ?_)
    refine g_aload_n C 18 0 dX2_takesDocket_18 rfl ?_
    refine g_callVi (st := []) (As := []) C EX_ok EX_vm 19 5 0 (tX2_readsNext F u1) rfl gX2_takesDocket_X2_readsNext rfl rfl rfl (by decide +kernel) ⟨Nat.le_of_ble_eq_true rfl, Nat.le_of_ble_eq_true rfl⟩ rfl rfl rfl (Nat.le_of_ble_eq_true rfl) dX2_takesDocket_19 (fun r3 u2 => ?_)
    refine g_if_ne C 22 27 dX2_takesDocket_22 (by decide) ?_ ?_
    · skip
      refine g_iconst C 27 0 dX2_takesDocket_27 rfl ?_
      refine g_istore_n C 28 [(1, .int 0), (0, .ref (ad 5))] dX2_takesDocket_28 (by decide) rfl ?_
      refine g_jn0 58 ([(0, .ref (ad 5))]) ([]) (fun u4 => ?_) (fun J58 hJ58 => ?_)
      · skip
        rw [jX2_takesDocket_58]
        refine g_aload_n C 58 0 dX2_takesDocket_58 rfl ?_
        refine gfX_X2_told C 59 iX2 (List.mem_cons_of_mem _ (List.mem_append_right _ wgL_3_21.1)) dX2_takesDocket_59 ?_
        refine gfX_X0_hearings 3 (by decide) C 62 iX0 (List.mem_cons_of_mem _ (List.mem_append_right _ wgL_13_0.1)) dX2_takesDocket_62 ?_
        refine g_bipush C 65 6 dX2_takesDocket_65 rfl ?_
        refine g_jn1 90 (fun (a5 : Int32) => [(0, .ref (ad 5))]) (fun (a5 : Int32) => [.int a5]) (fun a5 u6 => ?_) (fun J90 hJ90 => ?_)
        · skip
          refine g_istore_n C 90 [(1, .int a5), (0, .ref (ad 5))] dX2_takesDocket_90 (by decide) rfl ?_
          refine g_iload_n C 91 0 dX2_takesDocket_91 rfl ?_
          refine g_if_eq C 92 103 dX2_takesDocket_92 (by decide) ?_ ?_
          · skip
            refine g_aload_n C 103 1 dX2_takesDocket_103 rfl ?_
            refine g_callVi (st := []) (As := []) C EX_ok EX_vm 104 5 0 (tX2_takesSign F u6) rfl gX2_takesDocket_X2_takesSign rfl rfl rfl (by decide +kernel) ⟨Nat.le_of_ble_eq_true rfl, Nat.le_of_ble_eq_true rfl⟩ rfl rfl rfl (Nat.le_of_ble_eq_true rfl) dX2_takesDocket_104 (fun r8 u7 => ?_)
            exact g_zret C 107 dX2_takesDocket_107
          · skip
            refine g_aload_n C 95 1 dX2_takesDocket_95 rfl ?_
            refine g_iconst C 96 5 dX2_takesDocket_96 rfl ?_
            refine g_callVi (st := []) (As := [.int 5]) C EX_ok EX_vm 97 5 1 (tX2_fails F 5 u6) rfl gX2_takesDocket_X2_fails rfl rfl rfl (by decide +kernel) ⟨Nat.le_of_ble_eq_true rfl, Nat.le_of_ble_eq_true rfl⟩ rfl rfl rfl (Nat.le_of_ble_eq_true rfl) dX2_takesDocket_97 (fun r10 u9 => ?_)
            refine g_goto C 100 107 dX2_takesDocket_100 (by decide) ?_
            exact g_zret C 107 dX2_takesDocket_107
        · skip
          refine g_jn0 89 ([(0, .ref (ad 5))]) ([]) (fun u11 => ?_) (fun J89 hJ89 => ?_)
          · skip
            refine g_iconst C 89 0 dX2_takesDocket_89 rfl ?_
            exact g_sub _ [0] rfl (hJ90 0 u11)
          · skip
            refine g_icmp_lt C 67 89 dX2_takesDocket_67 (by decide) ?_ ?_
            · skip
              exact g_sub _ [0] rfl (hJ89 u4)
            · skip
              refine g_aload_n C 70 0 dX2_takesDocket_70 rfl ?_
              refine gfX_X2_token C 71 iX2 (List.mem_cons_of_mem _ (List.mem_append_right _ wgL_4_1.1)) dX2_takesDocket_71 ?_
              refine g_iconst C 74 3 dX2_takesDocket_74 rfl ?_
              refine g_icmp_eq C 75 89 dX2_takesDocket_75 (by decide) ?_ ?_
              · skip
                exact g_sub _ [0] rfl (hJ89 u4)
              · skip
                refine g_aload_n C 78 0 dX2_takesDocket_78 rfl ?_
                refine gfX_X2_token C 79 iX2 (List.mem_cons_of_mem _ (List.mem_append_right _ wgL_4_1.1)) dX2_takesDocket_79 ?_
                refine g_if_eq C 82 89 dX2_takesDocket_82 (by decide) ?_ ?_
                · skip
                  exact g_sub _ [0] rfl (hJ89 u4)
                · skip
                  refine g_iconst C 85 1 dX2_takesDocket_85 rfl ?_
                  refine g_goto C 86 90 dX2_takesDocket_86 (by decide) ?_
                  exact g_sub _ [0] rfl (hJ90 1 u4)
      · skip
        refine g_sub _ [1, 0] rfl ?_
        refine g_lq1 (fun (x12 : Int32) => [(0, .ref (ad 5)), (1, .int x12)]) (fun self14 hself14 x12 u13 => ?_) F 0 u2
        rw [bX2_takesDocket_29]
        refine g_iload_n C 29 1 dX2_takesDocket_29 rfl ?_
        refine g_bipush C 30 6 dX2_takesDocket_30 rfl ?_
        refine g_icmp_ge C 32 58 dX2_takesDocket_32 (by decide) ?_ ?_
        · skip
          exact g_sub _ [0] rfl (hJ58 u13)
        · skip
          refine g_aload_n C 35 0 dX2_takesDocket_35 rfl ?_
          refine gfX_X2_token C 36 iX2 (List.mem_cons_of_mem _ (List.mem_append_right _ wgL_4_1.1)) dX2_takesDocket_36 ?_
          refine g_iconst C 39 2 dX2_takesDocket_39 rfl ?_
          refine g_icmp_ne C 40 58 dX2_takesDocket_40 (by decide) ?_ ?_
          · skip
            exact g_sub _ [0] rfl (hJ58 u13)
          · skip
            refine g_aload_n C 43 0 dX2_takesDocket_43 rfl ?_
            refine g_callVi (st := []) (As := []) C EX_ok EX_vm 44 5 0 (tX2_takesHearing F u13) rfl gX2_takesDocket_X2_takesHearing rfl rfl rfl (by decide +kernel) ⟨Nat.le_of_ble_eq_true rfl, Nat.le_of_ble_eq_true rfl⟩ rfl rfl rfl (Nat.le_of_ble_eq_true rfl) dX2_takesDocket_44 (fun r16 u15 => ?_)
            refine g_if_ne C 47 52 dX2_takesDocket_47 (by decide) ?_ ?_
            · skip
              refine g_iinc C 52 1 [(1, .int (x12 + 1)), (0, .ref (ad 5))] dX2_takesDocket_52 rfl rfl (by decide) rfl ?_
              refine g_goto C 55 29 dX2_takesDocket_55 (by decide) ?_
              exact g_sub _ [1, 0] rfl (hself14 (x12 + 1) u15)
            · skip
              refine g_iconst C 50 0 dX2_takesDocket_50 rfl ?_
              exact g_nret C 51 rfl dX2_takesDocket_51
    · skip
      refine g_iconst C 25 0 dX2_takesDocket_25 rfl ?_
      exact g_nret C 26 rfl dX2_takesDocket_26
  · skip
    refine g_aload_n C 7 0 dX2_takesDocket_7 rfl ?_
    refine g_iconst C 8 4 dX2_takesDocket_8 rfl ?_
    refine g_callVi (st := []) (As := [.int 4]) C EX_ok EX_vm 9 5 1 (tX2_fails F 4 u) rfl gX2_takesDocket_X2_fails rfl rfl rfl (by decide +kernel) ⟨Nat.le_of_ble_eq_true rfl, Nat.le_of_ble_eq_true rfl⟩ rfl rfl rfl (Nat.le_of_ble_eq_true rfl) dX2_takesDocket_9 (fun r18 u17 => ?_)
    exact g_zret C 12 dX2_takesDocket_12
def pX2_habitNamed (F : Nat)  (u : St) : Option (Int32 × St) :=
  bd (pX2_isNamed F 7 u) (fun (r2 : Int32) (u1 : St) => if r2 = 0 then bd (pX2_isNamed F 8 u1) (fun (r4 : Int32) (u3 : St) => if r4 = 0 then bd (pX2_isNamed F 9 u3) (fun (r6 : Int32) (u5 : St) => if r6 = 0 then bd (pX2_isNamed F 10 u5) (fun (r8 : Int32) (u7 : St) => if r8 = 0 then some ((-4), u7) else some (3, u7)) else some (2, u5)) else some (1, u3)) else some (0, u1))
set_option maxRecDepth 100000 in
set_option maxHeartbeats 4000000 in
theorem tX2_habitNamed {l : Launch} {D : va_G} {cI cZ : ClassId} {ad : Nat → Nat} {tBURNS tFLAME_BOUNDS : Nat} {tS : Option Nat} {adK adV : Nat → Nat} (F : Nat)  (u : St) : CtI l D [(cI, .int), (cZ, .boolean)] (wX ad cI cZ) (EX tBURNS tFLAME_BOUNDS tS adK adV) yX2_habitNamed wsX2_habitNamed ({ frames := 5, cells := 0, slots := 0, locals := 107 } : Room) [.ref (ad 5)] u (pX2_habitNamed F u) := by
  refine ctI_of (own := RX2) (cc := cX2_habitNamed) (n := 1) (ret := (some .int)) (by decide) rfl rfl (Nat.le_of_ble_eq_true rfl) (lv := [(0, .ref (ad 5))]) rfl (fun C => ?_)
  rw [pX2_habitNamed]
  refine g_aload_n C 0 0 dX2_habitNamed_0 rfl ?_
  refine g_ldcS C 1 (EX_s7 C.2.2.2.2.2.2.2.2.1) dX2_habitNamed_1 ?_
  refine g_callVi (st := []) (As := [.ref (adK 7)]) C EX_ok EX_vm 3 5 1 (tX2_isNamed F 7 (by decide) u) rfl gX2_habitNamed_X2_isNamed rfl rfl rfl (by decide +kernel) ⟨Nat.le_of_ble_eq_true rfl, Nat.le_of_ble_eq_true rfl⟩ rfl rfl rfl (Nat.le_of_ble_eq_true rfl) dX2_habitNamed_3 (fun r2 u1 => ?_)
  refine g_if_eq C 6 11 dX2_habitNamed_6 (by decide) ?_ ?_
  · skip
    refine g_aload_n C 11 0 dX2_habitNamed_11 rfl ?_
    refine g_ldcS C 12 (EX_s8 C.2.2.2.2.2.2.2.2.1) dX2_habitNamed_12 ?_
    refine g_callVi (st := []) (As := [.ref (adK 8)]) C EX_ok EX_vm 14 5 1 (tX2_isNamed F 8 (by decide) u1) rfl gX2_habitNamed_X2_isNamed rfl rfl rfl (by decide +kernel) ⟨Nat.le_of_ble_eq_true rfl, Nat.le_of_ble_eq_true rfl⟩ rfl rfl rfl (Nat.le_of_ble_eq_true rfl) dX2_habitNamed_14 (fun r4 u3 => ?_)
    refine g_if_eq C 17 22 dX2_habitNamed_17 (by decide) ?_ ?_
    · skip
      refine g_aload_n C 22 0 dX2_habitNamed_22 rfl ?_
      refine g_ldcS C 23 (EX_s9 C.2.2.2.2.2.2.2.2.1) dX2_habitNamed_23 ?_
      refine g_callVi (st := []) (As := [.ref (adK 9)]) C EX_ok EX_vm 25 5 1 (tX2_isNamed F 9 (by decide) u3) rfl gX2_habitNamed_X2_isNamed rfl rfl rfl (by decide +kernel) ⟨Nat.le_of_ble_eq_true rfl, Nat.le_of_ble_eq_true rfl⟩ rfl rfl rfl (Nat.le_of_ble_eq_true rfl) dX2_habitNamed_25 (fun r6 u5 => ?_)
      refine g_if_eq C 28 33 dX2_habitNamed_28 (by decide) ?_ ?_
      · skip
        refine g_aload_n C 33 0 dX2_habitNamed_33 rfl ?_
        refine g_ldcS C 34 (EX_s10 C.2.2.2.2.2.2.2.2.1) dX2_habitNamed_34 ?_
        refine g_callVi (st := []) (As := [.ref (adK 10)]) C EX_ok EX_vm 36 5 1 (tX2_isNamed F 10 (by decide) u5) rfl gX2_habitNamed_X2_isNamed rfl rfl rfl (by decide +kernel) ⟨Nat.le_of_ble_eq_true rfl, Nat.le_of_ble_eq_true rfl⟩ rfl rfl rfl (Nat.le_of_ble_eq_true rfl) dX2_habitNamed_36 (fun r8 u7 => ?_)
        refine g_if_eq C 39 46 dX2_habitNamed_39 (by decide) ?_ ?_
        · skip
          refine g_bipush C 46 (-4) dX2_habitNamed_46 rfl ?_
          exact g_iret C 48 dX2_habitNamed_48
        · skip
          refine g_iconst C 42 3 dX2_habitNamed_42 rfl ?_
          refine g_goto C 43 48 dX2_habitNamed_43 (by decide) ?_
          exact g_iret C 48 dX2_habitNamed_48
      · skip
        refine g_iconst C 31 2 dX2_habitNamed_31 rfl ?_
        exact g_iret C 32 dX2_habitNamed_32
    · skip
      refine g_iconst C 20 1 dX2_habitNamed_20 rfl ?_
      exact g_iret C 21 dX2_habitNamed_21
  · skip
    refine g_iconst C 9 0 dX2_habitNamed_9 rfl ?_
    exact g_iret C 10 dX2_habitNamed_10
def pX0_addJudge (F : Nat) (j : Nat) (p1 : Int32) (p2 : Int32) (u : St) : Option (Int32 × St) :=
  if (u.1 (4 * j + 1)) < 3 then gd (inb (u.1 (4 * j + 1)) 3) (vl (sta u (13 * j + 7) (u.1 (4 * j + 1)) p1) (fun (u1 : St) => gd (inb (u1.1 (4 * j + 1)) 3) (vl (sta u1 (13 * j + 8) (u1.1 (4 * j + 1)) p2) (fun (u2 : St) => vl (stf u2 (4 * j + 1) ((u2.1 (4 * j + 1)) + 1)) (fun (u3 : St) => some (1, u3)))))) else some (0, u)
set_option maxRecDepth 100000 in
set_option maxHeartbeats 4000000 in
theorem tX0_addJudge {l : Launch} {D : va_G} {cI cZ : ClassId} {ad : Nat → Nat} {tBURNS tFLAME_BOUNDS : Nat} {tS : Option Nat} {adK adV : Nat → Nat} (F : Nat) (j : Nat) (hj : j < 4) (p1 : Int32) (p2 : Int32) (u : St) : CtI l D [(cI, .int), (cZ, .boolean)] (wX ad cI cZ) (EX tBURNS tFLAME_BOUNDS tS adK adV) yX0_addJudge wsX0_addJudge ({ frames := 0, cells := 0, slots := 0, locals := 0 } : Room) [.ref (ad (1 + j)), .int p1, .int p2] u (pX0_addJudge F j p1 p2 u) := by
  refine ctI_of (own := RX0) (cc := cX0_addJudge) (n := 3) (ret := (some .boolean)) (by decide) rfl rfl (Nat.le_of_ble_eq_true rfl) (lv := [(0, .ref (ad (1 + j))), (1, .int p1), (2, .int p2)]) rfl (fun C => ?_)
  have iX0 : ∀ w ∈ wsX00, w ∈ wsX0_addJudge := fun w h => List.mem_cons_of_mem _ (List.mem_append_right _ (inlX0 w h))
  rw [pX0_addJudge]
  refine g_aload_n C 0 0 dX0_addJudge_0 rfl ?_
  refine gfX_X0_judges j hj C 1 iX0 (List.mem_cons_of_mem _ (List.mem_append_right _ wgL_3_0.1)) dX0_addJudge_1 ?_
  refine g_iconst C 4 3 dX0_addJudge_4 rfl ?_
  refine g_icmp_lt C 5 10 dX0_addJudge_5 (by decide) ?_ ?_
  · skip
    refine g_aload_n C 10 0 dX0_addJudge_10 rfl ?_
    refine gfX_X0_habit j hj C 11 iX0 (List.mem_cons_of_mem _ (List.mem_append_right _ wgL_3_10.1)) dX0_addJudge_11 ?_
    refine g_aload_n C 14 0 dX0_addJudge_14 rfl ?_
    refine gfX_X0_judges j hj C 15 iX0 (List.mem_cons_of_mem _ (List.mem_append_right _ wgL_3_0.1)) dX0_addJudge_15 ?_
    refine g_iload_n C 18 1 dX0_addJudge_18 rfl ?_
    refine g_iast C 19 (10 + (13 * j + 7)) 0 (13 * j + 7) (wX_X0_habit j hj) (wX_X0_habit_set j hj) rfl dX0_addJudge_19 (fun u1 => ?_)
    refine g_aload_n C 20 0 dX0_addJudge_20 rfl ?_
    refine gfX_X0_slow j hj C 21 iX0 (List.mem_cons_of_mem _ (List.mem_append_right _ wgL_3_11.1)) dX0_addJudge_21 ?_
    refine g_aload_n C 24 0 dX0_addJudge_24 rfl ?_
    refine gfX_X0_judges j hj C 25 iX0 (List.mem_cons_of_mem _ (List.mem_append_right _ wgL_3_0.1)) dX0_addJudge_25 ?_
    refine g_iload_n C 28 2 dX0_addJudge_28 rfl ?_
    refine g_iast C 29 (10 + (13 * j + 8)) 0 (13 * j + 8) (wX_X0_slow j hj) (wX_X0_slow_set j hj) rfl dX0_addJudge_29 (fun u2 => ?_)
    refine g_aload_n C 30 0 dX0_addJudge_30 rfl ?_
    refine g_dup C 31 dX0_addJudge_31 rfl ?_
    refine gfX_X0_judges j hj C 32 iX0 (List.mem_cons_of_mem _ (List.mem_append_right _ wgL_3_0.1)) dX0_addJudge_32 ?_
    refine g_iconst C 35 1 dX0_addJudge_35 rfl ?_
    refine g_iadd C 36 dX0_addJudge_36 ?_
    refine pfX_X0_judges j hj C 37 iX0 (List.mem_cons_of_mem _ (List.mem_append_right _ wgL_3_0.1)) dX0_addJudge_37 (fun u3 => ?_)
    refine g_iconst C 40 1 dX0_addJudge_40 rfl ?_
    exact g_nret C 41 rfl dX0_addJudge_41
  · skip
    refine g_iconst C 8 0 dX0_addJudge_8 rfl ?_
    exact g_nret C 9 rfl dX0_addJudge_9
def pX2_takesJudge (F : Nat) (p1 : Int32) (u : St) : Option (Int32 × St) :=
  if (u.1 13) < 3 then bd (pX2_readsNumber F 1 9 u) (fun (r2 : Int32) (u1 : St) => if r2 = 0 then some (0, u1) else bd (pX0_addJudge F 3 p1 (u1.1 23) u1) (fun (r4 : Int32) (u3 : St) => bd (pX2_readsNext F u3) (fun (r6 : Int32) (u5 : St) => if r6 = 0 then some (0, u5) else bd (pX2_takesSign F u5) (fun (r8 : Int32) (u7 : St) => if r8 = 0 then some (0, u7) else some (1, u7))))) else bd (pX2_fails F 5 u) (fun (r10 : Int32) (u9 : St) => gd (z01 r10) (some (r10, u9)))
set_option maxRecDepth 100000 in
set_option maxHeartbeats 4000000 in
theorem tX2_takesJudge {l : Launch} {D : va_G} {cI cZ : ClassId} {ad : Nat → Nat} {tBURNS tFLAME_BOUNDS : Nat} {tS : Option Nat} {adK adV : Nat → Nat} (F : Nat) (p1 : Int32) (u : St) : CtI l D [(cI, .int), (cZ, .boolean)] (wX ad cI cZ) (EX tBURNS tFLAME_BOUNDS tS adK adV) yX2_takesJudge wsX2_takesJudge ({ frames := 3, cells := 0, slots := 0, locals := 67 } : Room) [.ref (ad 5), .int p1] u (pX2_takesJudge F p1 u) := by
  refine ctI_of (own := RX2) (cc := cX2_takesJudge) (n := 2) (ret := (some .boolean)) (by decide) rfl rfl (Nat.le_of_ble_eq_true rfl) (lv := [(0, .ref (ad 5)), (1, .int p1)]) rfl (fun C => ?_)
  have iX0 : ∀ w ∈ wsX00, w ∈ wsX2_takesJudge := fun w h => List.mem_cons_of_mem _ (List.mem_append_right _ (inlX0 w h))
  have iX2 : ∀ w ∈ wsX20, w ∈ wsX2_takesJudge := fun w h => List.mem_cons_of_mem _ (List.mem_append_right _ (inlX2 w h))
  rw [pX2_takesJudge]
  refine g_aload_n C 0 0 dX2_takesJudge_0 rfl ?_
  refine gfX_X2_told C 1 iX2 (List.mem_cons_of_mem _ (List.mem_append_right _ wgL_3_21.1)) dX2_takesJudge_1 ?_
  refine gfX_X0_judges 3 (by decide) C 4 iX0 (List.mem_cons_of_mem _ (List.mem_append_right _ wgL_13_17.1)) dX2_takesJudge_4 ?_
  refine g_iconst C 7 3 dX2_takesJudge_7 rfl ?_
  refine g_icmp_lt C 8 17 dX2_takesJudge_8 (by decide) ?_ ?_
  · skip
    refine g_aload_n C 17 0 dX2_takesJudge_17 rfl ?_
    refine g_iconst C 18 1 dX2_takesJudge_18 rfl ?_
    refine g_bipush C 19 9 dX2_takesJudge_19 rfl ?_
    refine g_callVi (st := []) (As := [.int 1, .int 9]) C EX_ok EX_vm 21 5 2 (tX2_readsNumber F 1 9 u) rfl gX2_takesJudge_X2_readsNumber rfl rfl rfl (by decide +kernel) ⟨Nat.le_of_ble_eq_true rfl, Nat.le_of_ble_eq_true rfl⟩ rfl rfl rfl (Nat.le_of_ble_eq_true rfl) dX2_takesJudge_21 (fun r2 u1 => ?_)
    refine g_if_ne C 24 29 dX2_takesJudge_24 (by decide) ?_ ?_
    · skip
      refine g_aload_n C 29 0 dX2_takesJudge_29 rfl ?_
      refine gfX_X2_told C 30 iX2 (List.mem_cons_of_mem _ (List.mem_append_right _ wgL_3_21.1)) dX2_takesJudge_30 ?_
      refine g_iload_n C 33 1 dX2_takesJudge_33 rfl ?_
      refine g_aload_n C 34 0 dX2_takesJudge_34 rfl ?_
      refine gfX_X2_number C 35 iX2 (List.mem_cons_of_mem _ (List.mem_append_right _ wgL_4_4.1)) dX2_takesJudge_35 ?_
      refine g_callVi (st := []) (As := [.int p1, .int (u1.1 23)]) C EX_ok EX_vm 38 4 2 (tX0_addJudge F 3 (by decide) p1 (u1.1 23) u1) rfl gX2_takesJudge_X0_addJudge rfl rfl rfl (by decide +kernel) ⟨Nat.le_of_ble_eq_true rfl, Nat.le_of_ble_eq_true rfl⟩ (wX_X0 ad cI cZ _ 3 (by decide)) rfl rfl (Nat.le_of_ble_eq_true rfl) dX2_takesJudge_38 (fun r4 u3 => ?_)
      refine g_pop C 41 dX2_takesJudge_41 rfl ?_
      refine g_aload_n C 42 0 dX2_takesJudge_42 rfl ?_
      refine g_callVi (st := []) (As := []) C EX_ok EX_vm 43 5 0 (tX2_readsNext F u3) rfl gX2_takesJudge_X2_readsNext rfl rfl rfl (by decide +kernel) ⟨Nat.le_of_ble_eq_true rfl, Nat.le_of_ble_eq_true rfl⟩ rfl rfl rfl (Nat.le_of_ble_eq_true rfl) dX2_takesJudge_43 (fun r6 u5 => ?_)
      refine g_if_eq C 46 60 dX2_takesJudge_46 (by decide) ?_ ?_
      · skip
        refine g_iconst C 60 0 dX2_takesJudge_60 rfl ?_
        exact g_nret C 61 rfl dX2_takesJudge_61
      · skip
        refine g_aload_n C 49 0 dX2_takesJudge_49 rfl ?_
        refine g_callVi (st := []) (As := []) C EX_ok EX_vm 50 5 0 (tX2_takesSign F u5) rfl gX2_takesJudge_X2_takesSign rfl rfl rfl (by decide +kernel) ⟨Nat.le_of_ble_eq_true rfl, Nat.le_of_ble_eq_true rfl⟩ rfl rfl rfl (Nat.le_of_ble_eq_true rfl) dX2_takesJudge_50 (fun r8 u7 => ?_)
        refine g_if_eq C 53 60 dX2_takesJudge_53 (by decide) ?_ ?_
        · skip
          refine g_iconst C 60 0 dX2_takesJudge_60 rfl ?_
          exact g_nret C 61 rfl dX2_takesJudge_61
        · skip
          refine g_iconst C 56 1 dX2_takesJudge_56 rfl ?_
          refine g_goto C 57 61 dX2_takesJudge_57 (by decide) ?_
          exact g_nret C 61 rfl dX2_takesJudge_61
    · skip
      refine g_iconst C 27 0 dX2_takesJudge_27 rfl ?_
      exact g_nret C 28 rfl dX2_takesJudge_28
  · skip
    refine g_aload_n C 11 0 dX2_takesJudge_11 rfl ?_
    refine g_iconst C 12 5 dX2_takesJudge_12 rfl ?_
    refine g_callVi (st := []) (As := [.int 5]) C EX_ok EX_vm 13 5 1 (tX2_fails F 5 u) rfl gX2_takesJudge_X2_fails rfl rfl rfl (by decide +kernel) ⟨Nat.le_of_ble_eq_true rfl, Nat.le_of_ble_eq_true rfl⟩ rfl rfl rfl (Nat.le_of_ble_eq_true rfl) dX2_takesJudge_13 (fun r10 u9 => ?_)
    exact g_zret C 16 dX2_takesJudge_16
def pX2_takesLine (F : Nat)  (u : St) : Option (Int32 × St) :=
  bd (pX2_isNamed F 0 u) (fun (r2 : Int32) (u1 : St) => if r2 = 0 then bd (pX2_isNamed F 5 u1) (fun (r4 : Int32) (u3 : St) => if r4 = 0 then bd (pX2_isNamed F 6 u3) (fun (r6 : Int32) (u5 : St) => if r6 = 0 then bd (pX2_habitNamed F u5) (fun (r8 : Int32) (u7 : St) => if r8 = (-4) then bd (pX2_fails F 2 u7) (fun (r12 : Int32) (u11 : St) => gd (z01 r12) (some (r12, u11))) else bd (pX2_takesJudge F r8 u7) (fun (r10 : Int32) (u9 : St) => gd (z01 r10) (some (r10, u9)))) else bd (pX2_takesDocket F u5) (fun (r14 : Int32) (u13 : St) => gd (z01 r14) (some (r14, u13)))) else bd (pX2_takesDraught F u3) (fun (r16 : Int32) (u15 : St) => gd (z01 r16) (some (r16, u15)))) else bd (pX2_takesCase F u1) (fun (r18 : Int32) (u17 : St) => gd (z01 r18) (some (r18, u17))))
set_option maxRecDepth 100000 in
set_option maxHeartbeats 4000000 in
theorem tX2_takesLine {l : Launch} {D : va_G} {cI cZ : ClassId} {ad : Nat → Nat} {tBURNS tFLAME_BOUNDS : Nat} {tS : Option Nat} {adK adV : Nat → Nat} (F : Nat)  (u : St) : CtI l D [(cI, .int), (cZ, .boolean)] (wX ad cI cZ) (EX tBURNS tFLAME_BOUNDS tS adK adV) yX2_takesLine wsX2_takesLine ({ frames := 8, cells := 0, slots := 0, locals := 169 } : Room) [.ref (ad 5)] u (pX2_takesLine F u) := by
  refine ctI_of (own := RX2) (cc := cX2_takesLine) (n := 2) (ret := (some .boolean)) (by decide) rfl rfl (Nat.le_of_ble_eq_true rfl) (lv := [(0, .ref (ad 5))]) rfl (fun C => ?_)
  rw [pX2_takesLine]
  refine g_aload_n C 0 0 dX2_takesLine_0 rfl ?_
  refine g_ldcS C 1 (EX_s0 C.2.2.2.2.2.2.2.2.1) dX2_takesLine_1 ?_
  refine g_callVi (st := []) (As := [.ref (adK 0)]) C EX_ok EX_vm 3 5 1 (tX2_isNamed F 0 (by decide) u) rfl gX2_takesLine_X2_isNamed rfl rfl rfl (by decide +kernel) ⟨Nat.le_of_ble_eq_true rfl, Nat.le_of_ble_eq_true rfl⟩ rfl rfl rfl (Nat.le_of_ble_eq_true rfl) dX2_takesLine_3 (fun r2 u1 => ?_)
  refine g_if_eq C 6 14 dX2_takesLine_6 (by decide) ?_ ?_
  · skip
    refine g_aload_n C 14 0 dX2_takesLine_14 rfl ?_
    refine g_ldcS C 15 (EX_s5 C.2.2.2.2.2.2.2.2.1) dX2_takesLine_15 ?_
    refine g_callVi (st := []) (As := [.ref (adK 5)]) C EX_ok EX_vm 17 5 1 (tX2_isNamed F 5 (by decide) u1) rfl gX2_takesLine_X2_isNamed rfl rfl rfl (by decide +kernel) ⟨Nat.le_of_ble_eq_true rfl, Nat.le_of_ble_eq_true rfl⟩ rfl rfl rfl (Nat.le_of_ble_eq_true rfl) dX2_takesLine_17 (fun r4 u3 => ?_)
    refine g_if_eq C 20 28 dX2_takesLine_20 (by decide) ?_ ?_
    · skip
      refine g_aload_n C 28 0 dX2_takesLine_28 rfl ?_
      refine g_ldcS C 29 (EX_s6 C.2.2.2.2.2.2.2.2.1) dX2_takesLine_29 ?_
      refine g_callVi (st := []) (As := [.ref (adK 6)]) C EX_ok EX_vm 31 5 1 (tX2_isNamed F 6 (by decide) u3) rfl gX2_takesLine_X2_isNamed rfl rfl rfl (by decide +kernel) ⟨Nat.le_of_ble_eq_true rfl, Nat.le_of_ble_eq_true rfl⟩ rfl rfl rfl (Nat.le_of_ble_eq_true rfl) dX2_takesLine_31 (fun r6 u5 => ?_)
      refine g_if_eq C 34 42 dX2_takesLine_34 (by decide) ?_ ?_
      · skip
        refine g_aload_n C 42 0 dX2_takesLine_42 rfl ?_
        refine g_callVi (st := []) (As := []) C EX_ok EX_vm 43 5 0 (tX2_habitNamed F u5) rfl gX2_takesLine_X2_habitNamed rfl rfl rfl (by decide +kernel) ⟨Nat.le_of_ble_eq_true rfl, Nat.le_of_ble_eq_true rfl⟩ rfl rfl rfl (Nat.le_of_ble_eq_true rfl) dX2_takesLine_43 (fun r8 u7 => ?_)
        refine g_istore_n C 46 [(1, .int r8), (0, .ref (ad 5))] dX2_takesLine_46 (by decide) rfl ?_
        refine g_iload_n C 47 0 dX2_takesLine_47 rfl ?_
        refine g_bipush C 48 (-4) dX2_takesLine_48 rfl ?_
        refine g_icmp_ne C 50 61 dX2_takesLine_50 (by decide) ?_ ?_
        · skip
          refine g_aload_n C 61 1 dX2_takesLine_61 rfl ?_
          refine g_iload_n C 62 0 dX2_takesLine_62 rfl ?_
          refine g_callVi (st := []) (As := [.int r8]) C EX_ok EX_vm 63 5 1 (tX2_takesJudge F r8 u7) rfl gX2_takesLine_X2_takesJudge rfl rfl rfl (by decide +kernel) ⟨Nat.le_of_ble_eq_true rfl, Nat.le_of_ble_eq_true rfl⟩ rfl rfl rfl (Nat.le_of_ble_eq_true rfl) dX2_takesLine_63 (fun r10 u9 => ?_)
          exact g_zret C 66 dX2_takesLine_66
        · skip
          refine g_aload_n C 53 1 dX2_takesLine_53 rfl ?_
          refine g_iconst C 54 2 dX2_takesLine_54 rfl ?_
          refine g_callVi (st := []) (As := [.int 2]) C EX_ok EX_vm 55 5 1 (tX2_fails F 2 u7) rfl gX2_takesLine_X2_fails rfl rfl rfl (by decide +kernel) ⟨Nat.le_of_ble_eq_true rfl, Nat.le_of_ble_eq_true rfl⟩ rfl rfl rfl (Nat.le_of_ble_eq_true rfl) dX2_takesLine_55 (fun r12 u11 => ?_)
          refine g_goto C 58 66 dX2_takesLine_58 (by decide) ?_
          exact g_zret C 66 dX2_takesLine_66
      · skip
        refine g_aload_n C 37 0 dX2_takesLine_37 rfl ?_
        refine g_callVi (st := []) (As := []) C EX_ok EX_vm 38 5 0 (tX2_takesDocket F u5) rfl gX2_takesLine_X2_takesDocket rfl rfl rfl (by decide +kernel) ⟨Nat.le_of_ble_eq_true rfl, Nat.le_of_ble_eq_true rfl⟩ rfl rfl rfl (Nat.le_of_ble_eq_true rfl) dX2_takesLine_38 (fun r14 u13 => ?_)
        exact g_zret C 41 dX2_takesLine_41
    · skip
      refine g_aload_n C 23 0 dX2_takesLine_23 rfl ?_
      refine g_callVi (st := []) (As := []) C EX_ok EX_vm 24 5 0 (tX2_takesDraught F u3) rfl gX2_takesLine_X2_takesDraught rfl rfl rfl (by decide +kernel) ⟨Nat.le_of_ble_eq_true rfl, Nat.le_of_ble_eq_true rfl⟩ rfl rfl rfl (Nat.le_of_ble_eq_true rfl) dX2_takesLine_24 (fun r16 u15 => ?_)
      exact g_zret C 27 dX2_takesLine_27
  · skip
    refine g_aload_n C 9 0 dX2_takesLine_9 rfl ?_
    refine g_callVi (st := []) (As := []) C EX_ok EX_vm 10 5 0 (tX2_takesCase F u1) rfl gX2_takesLine_X2_takesCase rfl rfl rfl (by decide +kernel) ⟨Nat.le_of_ble_eq_true rfl, Nat.le_of_ble_eq_true rfl⟩ rfl rfl rfl (Nat.le_of_ble_eq_true rfl) dX2_takesLine_10 (fun r18 u17 => ?_)
    exact g_zret C 13 dX2_takesLine_13
def pX0_hasCase (F : Nat) (j : Nat) (p1 : Int64) (u : St) : Option (Int32 × St) :=
  bd (pX6_isIn F p1 0 ((u.1 (4 * j + 0)) - 1) u) (fun (r2 : Int32) (u1 : St) => gd (z01 r2) (some (r2, u1)))
set_option maxRecDepth 100000 in
set_option maxHeartbeats 4000000 in
theorem tX0_hasCase {l : Launch} {D : va_G} {cI cZ : ClassId} {ad : Nat → Nat} {tBURNS tFLAME_BOUNDS : Nat} {tS : Option Nat} {adK adV : Nat → Nat} (F : Nat) (j : Nat) (hj : j < 4) (p1 : Int64) (u : St) : CtI l D [(cI, .int), (cZ, .boolean)] (wX ad cI cZ) (EX tBURNS tFLAME_BOUNDS tS adK adV) yX0_hasCase wsX0_hasCase ({ frames := 1, cells := 0, slots := 0, locals := 23 } : Room) [.ref (ad (1 + j)), .long p1] u (pX0_hasCase F j p1 u) := by
  refine ctI_of (own := RX0) (cc := cX0_hasCase) (n := 3) (ret := (some .boolean)) (by decide) rfl rfl (Nat.le_of_ble_eq_true rfl) (lv := [(0, .ref (ad (1 + j))), (1, .long p1)]) rfl (fun C => ?_)
  have iX0 : ∀ w ∈ wsX00, w ∈ wsX0_hasCase := fun w h => List.mem_cons_of_mem _ (List.mem_append_right _ (inlX0 w h))
  rw [pX0_hasCase]
  refine g_lload_n C 0 1 dX0_hasCase_0 rfl ?_
  refine g_iconst C 1 0 dX0_hasCase_1 rfl ?_
  refine g_aload_n C 2 0 dX0_hasCase_2 rfl ?_
  refine gfX_X0_cases j hj C 3 iX0 (List.mem_cons_of_mem _ (List.mem_append_right _ wgL_2_23.1)) dX0_hasCase_3 ?_
  refine g_iconst C 6 1 dX0_hasCase_6 rfl ?_
  refine g_isub C 7 dX0_hasCase_7 ?_
  refine g_callNi (st := []) (As := [.long p1, .int 0, .int ((u.1 (4 * j + 0)) - 1)]) C EX_ok EX_vm 8 3 (tX6_isIn F p1 0 ((u.1 (4 * j + 0)) - 1) u) rfl ggX0_hasCase_X6_isIn rfl rfl rfl (EX_n1 C.2.2.2.2.2.2.2.2.1) (by decide +kernel) (by decide +kernel) (by decide +kernel) ⟨Nat.le_of_ble_eq_true rfl, Nat.le_of_ble_eq_true rfl⟩ rfl (Nat.le_of_ble_eq_true rfl) dX0_hasCase_8 (fun r2 u1 => ?_)
  exact g_zret C 11 dX0_hasCase_11
def pX0_hasJudge (F : Nat) (j : Nat) (p1 : Int32) (u : St) : Option (Int32 × St) :=
  bd (pX6_isIn F (Int32.toInt64 p1) 0 ((u.1 (4 * j + 1)) - 1) u) (fun (r2 : Int32) (u1 : St) => gd (z01 r2) (some (r2, u1)))
set_option maxRecDepth 100000 in
set_option maxHeartbeats 4000000 in
theorem tX0_hasJudge {l : Launch} {D : va_G} {cI cZ : ClassId} {ad : Nat → Nat} {tBURNS tFLAME_BOUNDS : Nat} {tS : Option Nat} {adK adV : Nat → Nat} (F : Nat) (j : Nat) (hj : j < 4) (p1 : Int32) (u : St) : CtI l D [(cI, .int), (cZ, .boolean)] (wX ad cI cZ) (EX tBURNS tFLAME_BOUNDS tS adK adV) yX0_hasJudge wsX0_hasJudge ({ frames := 1, cells := 0, slots := 0, locals := 23 } : Room) [.ref (ad (1 + j)), .int p1] u (pX0_hasJudge F j p1 u) := by
  refine ctI_of (own := RX0) (cc := cX0_hasJudge) (n := 2) (ret := (some .boolean)) (by decide) rfl rfl (Nat.le_of_ble_eq_true rfl) (lv := [(0, .ref (ad (1 + j))), (1, .int p1)]) rfl (fun C => ?_)
  have iX0 : ∀ w ∈ wsX00, w ∈ wsX0_hasJudge := fun w h => List.mem_cons_of_mem _ (List.mem_append_right _ (inlX0 w h))
  rw [pX0_hasJudge]
  refine g_iload_n C 0 1 dX0_hasJudge_0 rfl ?_
  refine g_i2l C 1 dX0_hasJudge_1 ?_
  refine g_iconst C 2 0 dX0_hasJudge_2 rfl ?_
  refine g_aload_n C 3 0 dX0_hasJudge_3 rfl ?_
  refine gfX_X0_judges j hj C 4 iX0 (List.mem_cons_of_mem _ (List.mem_append_right _ wgL_3_0.1)) dX0_hasJudge_4 ?_
  refine g_iconst C 7 1 dX0_hasJudge_7 rfl ?_
  refine g_isub C 8 dX0_hasJudge_8 ?_
  refine g_callNi (st := []) (As := [.long (Int32.toInt64 p1), .int 0, .int ((u.1 (4 * j + 1)) - 1)]) C EX_ok EX_vm 9 3 (tX6_isIn F (Int32.toInt64 p1) 0 ((u.1 (4 * j + 1)) - 1) u) rfl ggX0_hasJudge_X6_isIn rfl rfl rfl (EX_n1 C.2.2.2.2.2.2.2.2.1) (by decide +kernel) (by decide +kernel) (by decide +kernel) ⟨Nat.le_of_ble_eq_true rfl, Nat.le_of_ble_eq_true rfl⟩ rfl (Nat.le_of_ble_eq_true rfl) dX0_hasJudge_9 (fun r2 u1 => ?_)
  exact g_zret C 12 dX0_hasJudge_12
def jX2_docketStands_52 (F : Nat)   (u1 : St) : Option (Int32 × St) :=
  bd (pX2_fails F 6 u1) (fun (r3 : Int32) (u2 : St) => gd (z01 r3) (some (r3, u2)))
def bX2_docketStands_2 (F : Nat) (J52 : St → Option (Int32 × St)) (self6 : Int32 → St → Option (Int32 × St)) (x4 : Int32) (u5 : St) : Option (Int32 × St) :=
  if (u5.1 15) ≤ x4 then some (1, u5) else gd (inb x4 6) (bd (pX0_hasCase F 3 (Int32.toInt64 (u5.2 50 (Int32.toNatClampNeg x4))) u5) (fun (r8 : Int32) (u7 : St) => if r8 = 0 then (J52 u7) else gd (inb x4 6) (bd (pX0_hasJudge F 3 (u7.2 51 (Int32.toNatClampNeg x4)) u7) (fun (r10 : Int32) (u9 : St) => if r10 = 0 then (J52 u9) else (self6 (x4 + 1) u9)))))
def pX2_docketStands (F : Nat)  (u : St) : Option (Int32 × St) :=
  jn (jX2_docketStands_52 F) (fun (J52 : St → Option (Int32 × St)) => (lq1 (bX2_docketStands_2 F J52) F 0 u))
set_option maxRecDepth 100000 in
set_option maxHeartbeats 4000000 in
theorem tX2_docketStands {l : Launch} {D : va_G} {cI cZ : ClassId} {ad : Nat → Nat} {tBURNS tFLAME_BOUNDS : Nat} {tS : Option Nat} {adK adV : Nat → Nat} (F : Nat)  (u : St) : CtI l D [(cI, .int), (cZ, .boolean)] (wX ad cI cZ) (EX tBURNS tFLAME_BOUNDS tS adK adV) yX2_docketStands wsX2_docketStands ({ frames := 2, cells := 0, slots := 0, locals := 45 } : Room) [.ref (ad 5)] u (pX2_docketStands F u) := by
  refine ctI_of (own := RX2) (cc := cX2_docketStands) (n := 2) (ret := (some .boolean)) (by decide) rfl rfl (Nat.le_of_ble_eq_true rfl) (lv := [(0, .ref (ad 5))]) rfl (fun C => ?_)
  have iX0 : ∀ w ∈ wsX00, w ∈ wsX2_docketStands := fun w h => List.mem_cons_of_mem _ (List.mem_append_right _ (inlX0 w h))
  have iX2 : ∀ w ∈ wsX20, w ∈ wsX2_docketStands := fun w h => List.mem_cons_of_mem _ (List.mem_append_right _ (inlX2 w h))
  rw [pX2_docketStands]
  refine g_iconst C 0 0 dX2_docketStands_0 rfl ?_
  refine g_istore_n C 1 [(1, .int 0), (0, .ref (ad 5))] dX2_docketStands_1 (by decide) rfl ?_
  refine g_jn0 52 ([(0, .ref (ad 5))]) ([]) (fun u1 => ?_) (fun J52 hJ52 => ?_)
  · skip
    rw [jX2_docketStands_52]
    refine g_aload_n C 52 0 dX2_docketStands_52 rfl ?_
    refine g_bipush C 53 6 dX2_docketStands_53 rfl ?_
    refine g_callVi (st := []) (As := [.int 6]) C EX_ok EX_vm 55 5 1 (tX2_fails F 6 u1) rfl gX2_docketStands_X2_fails rfl rfl rfl (by decide +kernel) ⟨Nat.le_of_ble_eq_true rfl, Nat.le_of_ble_eq_true rfl⟩ rfl rfl rfl (Nat.le_of_ble_eq_true rfl) dX2_docketStands_55 (fun r3 u2 => ?_)
    exact g_zret C 58 dX2_docketStands_58
  · skip
    refine g_sub _ [1, 0] rfl ?_
    refine g_lq1 (fun (x4 : Int32) => [(0, .ref (ad 5)), (1, .int x4)]) (fun self6 hself6 x4 u5 => ?_) F 0 u
    rw [bX2_docketStands_2]
    refine g_iload_n C 2 1 dX2_docketStands_2 rfl ?_
    refine g_aload_n C 3 0 dX2_docketStands_3 rfl ?_
    refine gfX_X2_told C 4 iX2 (List.mem_cons_of_mem _ (List.mem_append_right _ wgL_3_21.1)) dX2_docketStands_4 ?_
    refine gfX_X0_hearings 3 (by decide) C 7 iX0 (List.mem_cons_of_mem _ (List.mem_append_right _ wgL_13_0.1)) dX2_docketStands_7 ?_
    refine g_icmp_ge C 10 65 dX2_docketStands_10 (by decide) ?_ ?_
    · skip
      refine g_iconst C 65 1 dX2_docketStands_65 rfl ?_
      exact g_nret C 66 rfl dX2_docketStands_66
    · skip
      refine g_aload_n C 13 0 dX2_docketStands_13 rfl ?_
      refine gfX_X2_told C 14 iX2 (List.mem_cons_of_mem _ (List.mem_append_right _ wgL_3_21.1)) dX2_docketStands_14 ?_
      refine g_aload_n C 17 0 dX2_docketStands_17 rfl ?_
      refine gfX_X2_told C 18 iX2 (List.mem_cons_of_mem _ (List.mem_append_right _ wgL_3_21.1)) dX2_docketStands_18 ?_
      refine gfX_X0_docketCase 3 (by decide) C 21 iX0 (List.mem_cons_of_mem _ (List.mem_append_right _ wgL_14_2.1)) dX2_docketStands_21 ?_
      refine g_iload_n C 24 1 dX2_docketStands_24 rfl ?_
      refine g_iald C 25 (10 + 50) 0 (wX_arr 50 (by decide)) rfl dX2_docketStands_25 ?_
      refine g_i2l C 26 dX2_docketStands_26 ?_
      refine g_callVi (st := []) (As := [.long (Int32.toInt64 (u5.2 50 (Int32.toNatClampNeg x4)))]) C EX_ok EX_vm 27 4 1 (tX0_hasCase F 3 (by decide) (Int32.toInt64 (u5.2 50 (Int32.toNatClampNeg x4))) u5) rfl gX2_docketStands_X0_hasCase rfl rfl rfl (by decide +kernel) ⟨Nat.le_of_ble_eq_true rfl, Nat.le_of_ble_eq_true rfl⟩ (wX_X0 ad cI cZ _ 3 (by decide)) rfl rfl (Nat.le_of_ble_eq_true rfl) dX2_docketStands_27 (fun r8 u7 => ?_)
      refine g_if_eq C 30 52 dX2_docketStands_30 (by decide) ?_ ?_
      · skip
        exact g_sub _ [0] rfl (hJ52 u7)
      · skip
        refine g_aload_n C 33 0 dX2_docketStands_33 rfl ?_
        refine gfX_X2_told C 34 iX2 (List.mem_cons_of_mem _ (List.mem_append_right _ wgL_3_21.1)) dX2_docketStands_34 ?_
        refine g_aload_n C 37 0 dX2_docketStands_37 rfl ?_
        refine gfX_X2_told C 38 iX2 (List.mem_cons_of_mem _ (List.mem_append_right _ wgL_3_21.1)) dX2_docketStands_38 ?_
        refine gfX_X0_docketJudge 3 (by decide) C 41 iX0 (List.mem_cons_of_mem _ (List.mem_append_right _ wgL_14_3.1)) dX2_docketStands_41 ?_
        refine g_iload_n C 44 1 dX2_docketStands_44 rfl ?_
        refine g_iald C 45 (10 + 51) 0 (wX_arr 51 (by decide)) rfl dX2_docketStands_45 ?_
        refine g_callVi (st := []) (As := [.int (u7.2 51 (Int32.toNatClampNeg x4))]) C EX_ok EX_vm 46 4 1 (tX0_hasJudge F 3 (by decide) (u7.2 51 (Int32.toNatClampNeg x4)) u7) rfl gX2_docketStands_X0_hasJudge rfl rfl rfl (by decide +kernel) ⟨Nat.le_of_ble_eq_true rfl, Nat.le_of_ble_eq_true rfl⟩ (wX_X0 ad cI cZ _ 3 (by decide)) rfl rfl (Nat.le_of_ble_eq_true rfl) dX2_docketStands_46 (fun r10 u9 => ?_)
        refine g_if_ne C 49 59 dX2_docketStands_49 (by decide) ?_ ?_
        · skip
          refine g_iinc C 59 1 [(1, .int (x4 + 1)), (0, .ref (ad 5))] dX2_docketStands_59 rfl rfl (by decide) rfl ?_
          refine g_goto C 62 2 dX2_docketStands_62 (by decide) ?_
          exact g_sub _ [1, 0] rfl (hself6 (x4 + 1) u9)
        · skip
          exact g_sub _ [0] rfl (hJ52 u9)
def pX6_copyRow (F : Nat) (p1 : Nat) (p2 : Nat) (u : St) : Option (Unit × St) :=
  gd (cpk 0 0 (if (Int32.ofNat (lenX p2)) < (Int32.ofNat (lenX p1)) then (Int32.ofNat (lenX p2)) else (Int32.ofNat (lenX p1))) (lenX p1) (lenX p2)) (vl (stw u p2 (va_cpy (u.2 p1) (u.2 p2) (Int32.toNatClampNeg 0) (Int32.toNatClampNeg 0) (Int32.toNatClampNeg (if (Int32.ofNat (lenX p2)) < (Int32.ofNat (lenX p1)) then (Int32.ofNat (lenX p2)) else (Int32.ofNat (lenX p1)))))) (fun (u1 : St) => some ((), u1)))
set_option maxRecDepth 100000 in
set_option maxHeartbeats 4000000 in
theorem tX6_copyRow {l : Launch} {D : va_G} {cI cZ : ClassId} {ad : Nat → Nat} {tBURNS tFLAME_BOUNDS : Nat} {tS : Option Nat} {adK adV : Nat → Nat} (F : Nat) (p1 : Nat) (hp1 : p1 < 66) (p2 : Nat) (hp2 : p2 < 66) (u : St) : CtV l D [(cI, .int), (cZ, .boolean)] (wX ad cI cZ) (EX tBURNS tFLAME_BOUNDS tS adK adV) yX6_copyRow wsX6_copyRow ({ frames := 1, cells := 0, slots := 0, locals := 18 } : Room) [.ref (ad (10 + p1)), .ref (ad (10 + p2))] u (pX6_copyRow F p1 p2 u) := by
  refine ctV_of (own := RX6) (cc := cX6_copyRow) (n := 2) (ret := none) (by decide) rfl rfl (Nat.le_of_ble_eq_true rfl) (lv := [(0, .ref (ad (10 + p1))), (1, .ref (ad (10 + p2)))]) rfl (fun C => ?_)
  rw [pX6_copyRow]
  refine g_aload_n C 0 0 dX6_copyRow_0 rfl ?_
  refine g_iconst C 1 0 dX6_copyRow_1 rfl ?_
  refine g_aload_n C 2 1 dX6_copyRow_2 rfl ?_
  refine g_iconst C 3 0 dX6_copyRow_3 rfl ?_
  refine g_aload_n C 4 0 dX6_copyRow_4 rfl ?_
  refine g_alen C 5 (10 + p1) 0 (wX_arr p1 hp1) rfl dX6_copyRow_5 ?_
  refine g_aload_n C 6 1 dX6_copyRow_6 rfl ?_
  refine g_alen C 7 (10 + p2) 0 (wX_arr p2 hp2) rfl dX6_copyRow_7 ?_
  refine g_mmin C 8 (by decide +kernel) (by decide +kernel) (by decide +kernel) (by decide +kernel) ⟨Nat.le_of_ble_eq_true rfl, Nat.le_of_ble_eq_true rfl⟩ dX6_copyRow_8 ?_
  refine g_copy C 11 (10 + p1) (10 + p2) 0 p1 p2 (by decide +kernel) (by decide +kernel) (by decide +kernel) (by decide +kernel) (wX_arr p1 hp1) (wX_arr p2 hp2) (wX_aset p2 hp2) rfl ⟨Nat.le_of_ble_eq_true rfl, Nat.le_of_ble_eq_true rfl⟩ dX6_copyRow_11 (fun u1 => ?_)
  exact g_vret C 14 dX6_copyRow_14
def pX0_becomes (F : Nat) (j : Nat) (p1 : Nat) (u : St) : Option (Unit × St) :=
  vl (stf u (4 * j + 0) (u.1 (4 * p1 + 0))) (fun (u1 : St) => vl (stf u1 (4 * j + 1) (u1.1 (4 * p1 + 1))) (fun (u2 : St) => vl (stf u2 (4 * j + 2) (u2.1 (4 * p1 + 2))) (fun (u3 : St) => vl (stf u3 (4 * j + 3) (u3.1 (4 * p1 + 3))) (fun (u4 : St) => bd (pX6_copyRow F (13 * p1 + 0) (13 * j + 0) u4) (fun (_ : Unit) (u5 : St) => bd (pX6_copyRow F (13 * p1 + 1) (13 * j + 1) u5) (fun (_ : Unit) (u6 : St) => bd (pX6_copyRow F (13 * p1 + 2) (13 * j + 2) u6) (fun (_ : Unit) (u7 : St) => bd (pX6_copyRow F (13 * p1 + 3) (13 * j + 3) u7) (fun (_ : Unit) (u8 : St) => bd (pX6_copyRow F (13 * p1 + 4) (13 * j + 4) u8) (fun (_ : Unit) (u9 : St) => bd (pX6_copyRow F (13 * p1 + 5) (13 * j + 5) u9) (fun (_ : Unit) (u10 : St) => bd (pX6_copyRow F (13 * p1 + 6) (13 * j + 6) u10) (fun (_ : Unit) (u11 : St) => bd (pX6_copyRow F (13 * p1 + 7) (13 * j + 7) u11) (fun (_ : Unit) (u12 : St) => bd (pX6_copyRow F (13 * p1 + 8) (13 * j + 8) u12) (fun (_ : Unit) (u13 : St) => bd (pX6_copyRow F (13 * p1 + 9) (13 * j + 9) u13) (fun (_ : Unit) (u14 : St) => bd (pX6_copyRow F (13 * p1 + 10) (13 * j + 10) u14) (fun (_ : Unit) (u15 : St) => bd (pX6_copyRow F (13 * p1 + 11) (13 * j + 11) u15) (fun (_ : Unit) (u16 : St) => bd (pX6_copyRow F (13 * p1 + 12) (13 * j + 12) u16) (fun (_ : Unit) (u17 : St) => some ((), u17))))))))))))))))))
set_option maxRecDepth 100000 in
set_option maxHeartbeats 4000000 in
theorem tX0_becomes {l : Launch} {D : va_G} {cI cZ : ClassId} {ad : Nat → Nat} {tBURNS tFLAME_BOUNDS : Nat} {tS : Option Nat} {adK adV : Nat → Nat} (F : Nat) (j : Nat) (hj : j < 4) (p1 : Nat) (hp1 : p1 < 4) (u : St) : CtV l D [(cI, .int), (cZ, .boolean)] (wX ad cI cZ) (EX tBURNS tFLAME_BOUNDS tS adK adV) yX0_becomes wsX0_becomes ({ frames := 2, cells := 0, slots := 0, locals := 39 } : Room) [.ref (ad (1 + j)), .ref (ad (1 + p1))] u (pX0_becomes F j p1 u) := by
  refine ctV_of (own := RX0) (cc := cX0_becomes) (n := 2) (ret := none) (by decide) rfl rfl (Nat.le_of_ble_eq_true rfl) (lv := [(0, .ref (ad (1 + j))), (1, .ref (ad (1 + p1)))]) rfl (fun C => ?_)
  have iX0 : ∀ w ∈ wsX00, w ∈ wsX0_becomes := fun w h => List.mem_cons_of_mem _ (List.mem_append_right _ (inlX0 w h))
  rw [pX0_becomes]
  refine g_aload_n C 0 0 dX0_becomes_0 rfl ?_
  refine g_aload_n C 1 1 dX0_becomes_1 rfl ?_
  refine gfX_X0_cases p1 hp1 C 2 iX0 (List.mem_cons_of_mem _ (List.mem_append_right _ wgL_2_23.1)) dX0_becomes_2 ?_
  refine pfX_X0_cases j hj C 5 iX0 (List.mem_cons_of_mem _ (List.mem_append_right _ wgL_2_23.1)) dX0_becomes_5 (fun u1 => ?_)
  refine g_aload_n C 8 0 dX0_becomes_8 rfl ?_
  refine g_aload_n C 9 1 dX0_becomes_9 rfl ?_
  refine gfX_X0_judges p1 hp1 C 10 iX0 (List.mem_cons_of_mem _ (List.mem_append_right _ wgL_3_0.1)) dX0_becomes_10 ?_
  refine pfX_X0_judges j hj C 13 iX0 (List.mem_cons_of_mem _ (List.mem_append_right _ wgL_3_0.1)) dX0_becomes_13 (fun u2 => ?_)
  refine g_aload_n C 16 0 dX0_becomes_16 rfl ?_
  refine g_aload_n C 17 1 dX0_becomes_17 rfl ?_
  refine gfX_X0_draughts p1 hp1 C 18 iX0 (List.mem_cons_of_mem _ (List.mem_append_right _ wgL_3_1.1)) dX0_becomes_18 ?_
  refine pfX_X0_draughts j hj C 21 iX0 (List.mem_cons_of_mem _ (List.mem_append_right _ wgL_3_1.1)) dX0_becomes_21 (fun u3 => ?_)
  refine g_aload_n C 24 0 dX0_becomes_24 rfl ?_
  refine g_aload_n C 25 1 dX0_becomes_25 rfl ?_
  refine gfX_X0_hearings p1 hp1 C 26 iX0 (List.mem_cons_of_mem _ (List.mem_append_right _ wgL_3_2.1)) dX0_becomes_26 ?_
  refine pfX_X0_hearings j hj C 29 iX0 (List.mem_cons_of_mem _ (List.mem_append_right _ wgL_3_2.1)) dX0_becomes_29 (fun u4 => ?_)
  refine g_aload_n C 32 1 dX0_becomes_32 rfl ?_
  refine gfX_X0_kind p1 hp1 C 33 iX0 (List.mem_cons_of_mem _ (List.mem_append_right _ wgL_3_3.1)) dX0_becomes_33 ?_
  refine g_aload_n C 36 0 dX0_becomes_36 rfl ?_
  refine gfX_X0_kind j hj C 37 iX0 (List.mem_cons_of_mem _ (List.mem_append_right _ wgL_3_3.1)) dX0_becomes_37 ?_
  refine g_callNv (st := []) (As := [.ref (ad (10 + (13 * p1 + 0))), .ref (ad (10 + (13 * j + 0)))]) C EX_ok EX_vm 40 2 (tX6_copyRow F (13 * p1 + 0) (by omega) (13 * j + 0) (by omega) u4) rfl ggX0_becomes_X6_copyRow rfl rfl rfl (EX_n2 C.2.2.2.2.2.2.2.2.1) (by decide +kernel) (by decide +kernel) (by decide +kernel) ⟨Nat.le_of_ble_eq_true rfl, Nat.le_of_ble_eq_true rfl⟩ rfl (Nat.le_of_ble_eq_true rfl) dX0_becomes_40 (fun u5 => ?_)
  refine g_aload_n C 43 1 dX0_becomes_43 rfl ?_
  refine gfX_X0_length p1 hp1 C 44 iX0 (List.mem_cons_of_mem _ (List.mem_append_right _ wgL_3_4.1)) dX0_becomes_44 ?_
  refine g_aload_n C 47 0 dX0_becomes_47 rfl ?_
  refine gfX_X0_length j hj C 48 iX0 (List.mem_cons_of_mem _ (List.mem_append_right _ wgL_3_4.1)) dX0_becomes_48 ?_
  refine g_callNv (st := []) (As := [.ref (ad (10 + (13 * p1 + 1))), .ref (ad (10 + (13 * j + 1)))]) C EX_ok EX_vm 51 2 (tX6_copyRow F (13 * p1 + 1) (by omega) (13 * j + 1) (by omega) u5) rfl ggX0_becomes_X6_copyRow rfl rfl rfl (EX_n2 C.2.2.2.2.2.2.2.2.1) (by decide +kernel) (by decide +kernel) (by decide +kernel) ⟨Nat.le_of_ble_eq_true rfl, Nat.le_of_ble_eq_true rfl⟩ rfl (Nat.le_of_ble_eq_true rfl) dX0_becomes_51 (fun u6 => ?_)
  refine g_aload_n C 54 1 dX0_becomes_54 rfl ?_
  refine gfX_X0_guard p1 hp1 C 55 iX0 (List.mem_cons_of_mem _ (List.mem_append_right _ wgL_3_5.1)) dX0_becomes_55 ?_
  refine g_aload_n C 58 0 dX0_becomes_58 rfl ?_
  refine gfX_X0_guard j hj C 59 iX0 (List.mem_cons_of_mem _ (List.mem_append_right _ wgL_3_5.1)) dX0_becomes_59 ?_
  refine g_callNv (st := []) (As := [.ref (ad (10 + (13 * p1 + 2))), .ref (ad (10 + (13 * j + 2)))]) C EX_ok EX_vm 62 2 (tX6_copyRow F (13 * p1 + 2) (by omega) (13 * j + 2) (by omega) u6) rfl ggX0_becomes_X6_copyRow rfl rfl rfl (EX_n2 C.2.2.2.2.2.2.2.2.1) (by decide +kernel) (by decide +kernel) (by decide +kernel) ⟨Nat.le_of_ble_eq_true rfl, Nat.le_of_ble_eq_true rfl⟩ rfl (Nat.le_of_ble_eq_true rfl) dX0_becomes_62 (fun u7 => ?_)
  refine g_aload_n C 65 1 dX0_becomes_65 rfl ?_
  refine gfX_X0_verdict p1 hp1 C 66 iX0 (List.mem_cons_of_mem _ (List.mem_append_right _ wgL_3_6.1)) dX0_becomes_66 ?_
  refine g_aload_n C 69 0 dX0_becomes_69 rfl ?_
  refine gfX_X0_verdict j hj C 70 iX0 (List.mem_cons_of_mem _ (List.mem_append_right _ wgL_3_6.1)) dX0_becomes_70 ?_
  refine g_callNv (st := []) (As := [.ref (ad (10 + (13 * p1 + 3))), .ref (ad (10 + (13 * j + 3)))]) C EX_ok EX_vm 73 2 (tX6_copyRow F (13 * p1 + 3) (by omega) (13 * j + 3) (by omega) u7) rfl ggX0_becomes_X6_copyRow rfl rfl rfl (EX_n2 C.2.2.2.2.2.2.2.2.1) (by decide +kernel) (by decide +kernel) (by decide +kernel) ⟨Nat.le_of_ble_eq_true rfl, Nat.le_of_ble_eq_true rfl⟩ rfl (Nat.le_of_ble_eq_true rfl) dX0_becomes_73 (fun u8 => ?_)
  refine g_aload_n C 76 1 dX0_becomes_76 rfl ?_
  refine gfX_X0_appealed p1 hp1 C 77 iX0 (List.mem_cons_of_mem _ (List.mem_append_right _ wgL_3_7.1)) dX0_becomes_77 ?_
  refine g_aload_n C 80 0 dX0_becomes_80 rfl ?_
  refine gfX_X0_appealed j hj C 81 iX0 (List.mem_cons_of_mem _ (List.mem_append_right _ wgL_3_7.1)) dX0_becomes_81 ?_
  refine g_callNv (st := []) (As := [.ref (ad (10 + (13 * p1 + 4))), .ref (ad (10 + (13 * j + 4)))]) C EX_ok EX_vm 84 2 (tX6_copyRow F (13 * p1 + 4) (by omega) (13 * j + 4) (by omega) u8) rfl ggX0_becomes_X6_copyRow rfl rfl rfl (EX_n2 C.2.2.2.2.2.2.2.2.1) (by decide +kernel) (by decide +kernel) (by decide +kernel) ⟨Nat.le_of_ble_eq_true rfl, Nat.le_of_ble_eq_true rfl⟩ rfl (Nat.le_of_ble_eq_true rfl) dX0_becomes_84 (fun u9 => ?_)
  refine g_aload_n C 87 1 dX0_becomes_87 rfl ?_
  refine gfX_X0_endMinute p1 hp1 C 88 iX0 (List.mem_cons_of_mem _ (List.mem_append_right _ wgL_3_8.1)) dX0_becomes_88 ?_
  refine g_aload_n C 91 0 dX0_becomes_91 rfl ?_
  refine gfX_X0_endMinute j hj C 92 iX0 (List.mem_cons_of_mem _ (List.mem_append_right _ wgL_3_8.1)) dX0_becomes_92 ?_
  refine g_callNv (st := []) (As := [.ref (ad (10 + (13 * p1 + 5))), .ref (ad (10 + (13 * j + 5)))]) C EX_ok EX_vm 95 2 (tX6_copyRow F (13 * p1 + 5) (by omega) (13 * j + 5) (by omega) u9) rfl ggX0_becomes_X6_copyRow rfl rfl rfl (EX_n2 C.2.2.2.2.2.2.2.2.1) (by decide +kernel) (by decide +kernel) (by decide +kernel) ⟨Nat.le_of_ble_eq_true rfl, Nat.le_of_ble_eq_true rfl⟩ rfl (Nat.le_of_ble_eq_true rfl) dX0_becomes_95 (fun u10 => ?_)
  refine g_aload_n C 98 1 dX0_becomes_98 rfl ?_
  refine gfX_X0_endJudge p1 hp1 C 99 iX0 (List.mem_cons_of_mem _ (List.mem_append_right _ wgL_3_9.1)) dX0_becomes_99 ?_
  refine g_aload_n C 102 0 dX0_becomes_102 rfl ?_
  refine gfX_X0_endJudge j hj C 103 iX0 (List.mem_cons_of_mem _ (List.mem_append_right _ wgL_3_9.1)) dX0_becomes_103 ?_
  refine g_callNv (st := []) (As := [.ref (ad (10 + (13 * p1 + 6))), .ref (ad (10 + (13 * j + 6)))]) C EX_ok EX_vm 106 2 (tX6_copyRow F (13 * p1 + 6) (by omega) (13 * j + 6) (by omega) u10) rfl ggX0_becomes_X6_copyRow rfl rfl rfl (EX_n2 C.2.2.2.2.2.2.2.2.1) (by decide +kernel) (by decide +kernel) (by decide +kernel) ⟨Nat.le_of_ble_eq_true rfl, Nat.le_of_ble_eq_true rfl⟩ rfl (Nat.le_of_ble_eq_true rfl) dX0_becomes_106 (fun u11 => ?_)
  refine g_aload_n C 109 1 dX0_becomes_109 rfl ?_
  refine gfX_X0_habit p1 hp1 C 110 iX0 (List.mem_cons_of_mem _ (List.mem_append_right _ wgL_3_10.1)) dX0_becomes_110 ?_
  refine g_aload_n C 113 0 dX0_becomes_113 rfl ?_
  refine gfX_X0_habit j hj C 114 iX0 (List.mem_cons_of_mem _ (List.mem_append_right _ wgL_3_10.1)) dX0_becomes_114 ?_
  refine g_callNv (st := []) (As := [.ref (ad (10 + (13 * p1 + 7))), .ref (ad (10 + (13 * j + 7)))]) C EX_ok EX_vm 117 2 (tX6_copyRow F (13 * p1 + 7) (by omega) (13 * j + 7) (by omega) u11) rfl ggX0_becomes_X6_copyRow rfl rfl rfl (EX_n2 C.2.2.2.2.2.2.2.2.1) (by decide +kernel) (by decide +kernel) (by decide +kernel) ⟨Nat.le_of_ble_eq_true rfl, Nat.le_of_ble_eq_true rfl⟩ rfl (Nat.le_of_ble_eq_true rfl) dX0_becomes_117 (fun u12 => ?_)
  refine g_aload_n C 120 1 dX0_becomes_120 rfl ?_
  refine gfX_X0_slow p1 hp1 C 121 iX0 (List.mem_cons_of_mem _ (List.mem_append_right _ wgL_3_11.1)) dX0_becomes_121 ?_
  refine g_aload_n C 124 0 dX0_becomes_124 rfl ?_
  refine gfX_X0_slow j hj C 125 iX0 (List.mem_cons_of_mem _ (List.mem_append_right _ wgL_3_11.1)) dX0_becomes_125 ?_
  refine g_callNv (st := []) (As := [.ref (ad (10 + (13 * p1 + 8))), .ref (ad (10 + (13 * j + 8)))]) C EX_ok EX_vm 128 2 (tX6_copyRow F (13 * p1 + 8) (by omega) (13 * j + 8) (by omega) u12) rfl ggX0_becomes_X6_copyRow rfl rfl rfl (EX_n2 C.2.2.2.2.2.2.2.2.1) (by decide +kernel) (by decide +kernel) (by decide +kernel) ⟨Nat.le_of_ble_eq_true rfl, Nat.le_of_ble_eq_true rfl⟩ rfl (Nat.le_of_ble_eq_true rfl) dX0_becomes_128 (fun u13 => ?_)
  refine g_aload_n C 131 1 dX0_becomes_131 rfl ?_
  refine gfX_X0_minute p1 hp1 C 132 iX0 (List.mem_cons_of_mem _ (List.mem_append_right _ wgL_3_12.1)) dX0_becomes_132 ?_
  refine g_aload_n C 135 0 dX0_becomes_135 rfl ?_
  refine gfX_X0_minute j hj C 136 iX0 (List.mem_cons_of_mem _ (List.mem_append_right _ wgL_3_12.1)) dX0_becomes_136 ?_
  refine g_callNv (st := []) (As := [.ref (ad (10 + (13 * p1 + 9))), .ref (ad (10 + (13 * j + 9)))]) C EX_ok EX_vm 139 2 (tX6_copyRow F (13 * p1 + 9) (by omega) (13 * j + 9) (by omega) u13) rfl ggX0_becomes_X6_copyRow rfl rfl rfl (EX_n2 C.2.2.2.2.2.2.2.2.1) (by decide +kernel) (by decide +kernel) (by decide +kernel) ⟨Nat.le_of_ble_eq_true rfl, Nat.le_of_ble_eq_true rfl⟩ rfl (Nat.le_of_ble_eq_true rfl) dX0_becomes_139 (fun u14 => ?_)
  refine g_aload_n C 142 1 dX0_becomes_142 rfl ?_
  refine gfX_X0_strength p1 hp1 C 143 iX0 (List.mem_cons_of_mem _ (List.mem_append_right _ wgL_3_13.1)) dX0_becomes_143 ?_
  refine g_aload_n C 146 0 dX0_becomes_146 rfl ?_
  refine gfX_X0_strength j hj C 147 iX0 (List.mem_cons_of_mem _ (List.mem_append_right _ wgL_3_13.1)) dX0_becomes_147 ?_
  refine g_callNv (st := []) (As := [.ref (ad (10 + (13 * p1 + 10))), .ref (ad (10 + (13 * j + 10)))]) C EX_ok EX_vm 150 2 (tX6_copyRow F (13 * p1 + 10) (by omega) (13 * j + 10) (by omega) u14) rfl ggX0_becomes_X6_copyRow rfl rfl rfl (EX_n2 C.2.2.2.2.2.2.2.2.1) (by decide +kernel) (by decide +kernel) (by decide +kernel) ⟨Nat.le_of_ble_eq_true rfl, Nat.le_of_ble_eq_true rfl⟩ rfl (Nat.le_of_ble_eq_true rfl) dX0_becomes_150 (fun u15 => ?_)
  refine g_aload_n C 153 1 dX0_becomes_153 rfl ?_
  refine gfX_X0_docketCase p1 hp1 C 154 iX0 (List.mem_cons_of_mem _ (List.mem_append_right _ wgL_3_14.1)) dX0_becomes_154 ?_
  refine g_aload_n C 157 0 dX0_becomes_157 rfl ?_
  refine gfX_X0_docketCase j hj C 158 iX0 (List.mem_cons_of_mem _ (List.mem_append_right _ wgL_3_14.1)) dX0_becomes_158 ?_
  refine g_callNv (st := []) (As := [.ref (ad (10 + (13 * p1 + 11))), .ref (ad (10 + (13 * j + 11)))]) C EX_ok EX_vm 161 2 (tX6_copyRow F (13 * p1 + 11) (by omega) (13 * j + 11) (by omega) u15) rfl ggX0_becomes_X6_copyRow rfl rfl rfl (EX_n2 C.2.2.2.2.2.2.2.2.1) (by decide +kernel) (by decide +kernel) (by decide +kernel) ⟨Nat.le_of_ble_eq_true rfl, Nat.le_of_ble_eq_true rfl⟩ rfl (Nat.le_of_ble_eq_true rfl) dX0_becomes_161 (fun u16 => ?_)
  refine g_aload_n C 164 1 dX0_becomes_164 rfl ?_
  refine gfX_X0_docketJudge p1 hp1 C 165 iX0 (List.mem_cons_of_mem _ (List.mem_append_right _ wgL_3_15.1)) dX0_becomes_165 ?_
  refine g_aload_n C 168 0 dX0_becomes_168 rfl ?_
  refine gfX_X0_docketJudge j hj C 169 iX0 (List.mem_cons_of_mem _ (List.mem_append_right _ wgL_3_15.1)) dX0_becomes_169 ?_
  refine g_callNv (st := []) (As := [.ref (ad (10 + (13 * p1 + 12))), .ref (ad (10 + (13 * j + 12)))]) C EX_ok EX_vm 172 2 (tX6_copyRow F (13 * p1 + 12) (by omega) (13 * j + 12) (by omega) u16) rfl ggX0_becomes_X6_copyRow rfl rfl rfl (EX_n2 C.2.2.2.2.2.2.2.2.1) (by decide +kernel) (by decide +kernel) (by decide +kernel) ⟨Nat.le_of_ble_eq_true rfl, Nat.le_of_ble_eq_true rfl⟩ rfl (Nat.le_of_ble_eq_true rfl) dX0_becomes_172 (fun u17 => ?_)
  exact g_vret C 175 dX0_becomes_175
def jX6_text_45 (F : Nat)  (a3 : Int32) (a4 : Int32) (u5 : St) : Option (Int32 × St) :=
  jn (fun (a6 : Int32) (u7 : St) => vl (stf u7 17 0) (fun (u8 : St) => if a6 = 0 then some (((-10) - (u8.1 21)), u8) else bd (pX0_becomes F 0 3 u8) (fun (_ : Unit) (u9 : St) => vl (stf u9 29 0) (fun (u10 : St) => gd (inb 0 2) (vl (stz u10 66 0 0) (fun (u11 : St) => gd (inb 1 2) (vl (stz u11 66 1 0) (fun (u12 : St) => some (a3, u12))))))))) (fun (J64 : Int32 → St → Option (Int32 × St)) => jn (fun (u13 : St) => (J64 0 u13)) (fun (J63 : St → Option (Int32 × St)) => if a4 = 0 then (J63 u5) else bd (pX2_docketStands F u5) (fun (r15 : Int32) (u14 : St) => if r15 = 0 then (J63 u14) else (J64 1 u14))))
def bX6_text_10 (F : Nat) (J45 : Int32 → Int32 → St → Option (Int32 × St)) (self19 : Int32 → Int32 → St → Option (Int32 × St)) (x16 : Int32) (x17 : Int32) (u18 : St) : Option (Int32 × St) :=
  if x17 = 0 then (J45 x16 x17 u18) else if 160 ≤ x16 then (J45 x16 x17 u18) else bd (pX2_isAtEnd F u18) (fun (r21 : Int32) (u20 : St) => if r21 = 0 then bd (pX2_takesLine F u20) (fun (r23 : Int32) (u22 : St) => (self19 (x16 + 1) r23 u22)) else (J45 x16 x17 u20))
def pX6_text (F : Nat)  (u : St) : Option (Int32 × St) :=
  bd (pX2_begins F u) (fun (r2 : Int32) (u1 : St) => jn (jX6_text_45 F) (fun (J45 : Int32 → Int32 → St → Option (Int32 × St)) => (lq2 (bX6_text_10 F J45) F 0 r2 u1)))
set_option maxRecDepth 100000 in
set_option maxHeartbeats 4000000 in
theorem tX6_text {l : Launch} {D : va_G} {cI cZ : ClassId} {ad : Nat → Nat} {tBURNS tFLAME_BOUNDS : Nat} {tS : Option Nat} {adK adV : Nat → Nat} (F : Nat)  (u : St) : CtI l D [(cI, .int), (cZ, .boolean)] (wX ad cI cZ) (EX tBURNS tFLAME_BOUNDS tS adK adV) yX6_text wsX6_text ({ frames := 9, cells := 0, slots := 0, locals := 190 } : Room) [.ref (ad 0)] u (pX6_text F u) := by
  refine ctI_of (own := RX6) (cc := cX6_text) (n := 3) (ret := (some .int)) (by decide) rfl rfl (Nat.le_of_ble_eq_true rfl) (lv := [(0, .ref (ad 0))]) rfl (fun C => ?_)
  have iX1 : ∀ w ∈ wsX10, w ∈ wsX6_text := fun w h => List.mem_cons_of_mem _ (List.mem_append_right _ (inlX1 w h))
  have iX2 : ∀ w ∈ wsX20, w ∈ wsX6_text := fun w h => List.mem_cons_of_mem _ (List.mem_append_right _ (inlX2 w h))
  have iX6 : ∀ w ∈ wsX60, w ∈ wsX6_text := fun w h => List.mem_cons_of_mem _ (List.mem_append_right _ (inlX6 w h))
  rw [pX6_text]
  refine g_iconst C 0 0 dX6_text_0 rfl ?_
  refine g_istore_n C 1 [(1, .int 0), (0, .ref (ad 0))] dX6_text_1 (by decide) rfl ?_
  refine g_aload_n C 2 1 dX6_text_2 rfl ?_
  refine gfX_X6_reader C 3 iX6 (List.mem_cons_of_mem _ (List.mem_append_right _ wgL_1_23.1)) dX6_text_3 ?_
  refine g_callVi (st := []) (As := []) C EX_ok EX_vm 6 5 0 (tX2_begins F u) rfl gX6_text_X2_begins rfl rfl rfl (by decide +kernel) ⟨Nat.le_of_ble_eq_true rfl, Nat.le_of_ble_eq_true rfl⟩ rfl rfl rfl (Nat.le_of_ble_eq_true rfl) dX6_text_6 (fun r2 u1 => ?_)
  refine g_istore_n C 9 [(2, .int r2), (1, .int 0), (0, .ref (ad 0))] dX6_text_9 (by decide) rfl ?_
  refine g_jn2 45 (fun (a3 : Int32) (a4 : Int32) => [(0, .ref (ad 0)), (1, .int a3), (2, .int a4)]) (fun (a3 : Int32) (a4 : Int32) => []) (fun a3 a4 u5 => ?_) (fun J45 hJ45 => ?_)
  · skip
    rw [jX6_text_45]
    refine g_iload_n C 45 2 dX6_text_45 rfl ?_
    refine g_jn1 64 (fun (a6 : Int32) => [(0, .ref (ad 0)), (1, .int a3)]) (fun (a6 : Int32) => [.int a6]) (fun a6 u7 => ?_) (fun J64 hJ64 => ?_)
    · skip
      refine g_istore_n C 64 [(2, .int a6), (0, .ref (ad 0)), (1, .int a3)] dX6_text_64 (by decide) rfl ?_
      refine g_aload_n C 65 1 dX6_text_65 rfl ?_
      refine gfX_X6_reader C 66 iX6 (List.mem_cons_of_mem _ (List.mem_append_right _ wgL_1_23.1)) dX6_text_66 ?_
      refine g_iconst C 69 0 dX6_text_69 rfl ?_
      refine pfX_X2_size C 70 iX2 (List.mem_cons_of_mem _ (List.mem_append_right _ wgL_6_7.1)) dX6_text_70 (fun u8 => ?_)
      refine g_iload_n C 73 0 dX6_text_73 rfl ?_
      refine g_if_ne C 74 88 dX6_text_74 (by decide) ?_ ?_
      · skip
        refine g_aload_n C 88 1 dX6_text_88 rfl ?_
        refine gfX_X6_court C 89 iX6 (List.mem_cons_of_mem _ (List.mem_append_right _ wgL_1_15.1)) dX6_text_89 ?_
        refine g_aload_n C 92 1 dX6_text_92 rfl ?_
        refine gfX_X6_reader C 93 iX6 (List.mem_cons_of_mem _ (List.mem_append_right _ wgL_1_23.1)) dX6_text_93 ?_
        refine gfX_X2_told C 96 iX2 (List.mem_cons_of_mem _ (List.mem_append_right _ wgL_7_13.1)) dX6_text_96 ?_
        refine g_callVv (st := []) (As := [.ref (ad 4)]) C EX_ok EX_vm 99 1 1 (tX0_becomes F 0 (by decide) 3 (by decide) u8) rfl gX6_text_X0_becomes rfl rfl rfl (by decide +kernel) ⟨Nat.le_of_ble_eq_true rfl, Nat.le_of_ble_eq_true rfl⟩ (wX_X0 ad cI cZ _ 0 (by decide)) rfl rfl (Nat.le_of_ble_eq_true rfl) dX6_text_99 (fun u9 => ?_)
        refine g_aload_n C 102 1 dX6_text_102 rfl ?_
        refine gfX_X6_memory C 103 iX6 (List.mem_cons_of_mem _ (List.mem_append_right _ wgL_2_11.1)) dX6_text_103 ?_
        refine g_iconst C 106 0 dX6_text_106 rfl ?_
        refine pfX_X1_size C 107 iX1 (List.mem_cons_of_mem _ (List.mem_append_right _ wgL_7_14.1)) dX6_text_107 (fun u10 => ?_)
        refine g_aload_n C 110 1 dX6_text_110 rfl ?_
        refine gfX_X6_kept C 111 iX6 (List.mem_cons_of_mem _ (List.mem_append_right _ wgL_1_19.1)) dX6_text_111 ?_
        refine g_iconst C 114 0 dX6_text_114 rfl ?_
        refine g_iconst C 115 0 dX6_text_115 rfl ?_
        refine g_zast C 116 (10 + 66) 1 66 (wX_arrz 66 (by decide) (by decide)) (wX_asetz 66 (by decide) (by decide)) rfl dX6_text_116 (fun u11 => ?_)
        refine g_aload_n C 117 1 dX6_text_117 rfl ?_
        refine gfX_X6_kept C 118 iX6 (List.mem_cons_of_mem _ (List.mem_append_right _ wgL_1_19.1)) dX6_text_118 ?_
        refine g_iconst C 121 1 dX6_text_121 rfl ?_
        refine g_iconst C 122 0 dX6_text_122 rfl ?_
        refine g_zast C 123 (10 + 66) 1 66 (wX_arrz 66 (by decide) (by decide)) (wX_asetz 66 (by decide) (by decide)) rfl dX6_text_123 (fun u12 => ?_)
        refine g_iload_n C 124 2 dX6_text_124 rfl ?_
        exact g_iret C 125 dX6_text_125
      · skip
        refine g_bipush C 77 (-10) dX6_text_77 rfl ?_
        refine g_aload_n C 79 1 dX6_text_79 rfl ?_
        refine gfX_X6_reader C 80 iX6 (List.mem_cons_of_mem _ (List.mem_append_right _ wgL_1_23.1)) dX6_text_80 ?_
        refine gfX_X2_from C 83 iX2 (List.mem_cons_of_mem _ (List.mem_append_right _ wgL_7_12.1)) dX6_text_83 ?_
        refine g_isub C 86 dX6_text_86 ?_
        exact g_iret C 87 dX6_text_87
    · skip
      refine g_jn0 63 ([(0, .ref (ad 0)), (1, .int a3)]) ([]) (fun u13 => ?_) (fun J63 hJ63 => ?_)
      · skip
        refine g_iconst C 63 0 dX6_text_63 rfl ?_
        exact g_sub _ [0, 1] rfl (hJ64 0 u13)
      · skip
        refine g_if_eq C 46 63 dX6_text_46 (by decide) ?_ ?_
        · skip
          exact g_sub _ [0, 1] rfl (hJ63 u5)
        · skip
          refine g_aload_n C 49 0 dX6_text_49 rfl ?_
          refine gfX_X6_reader C 50 iX6 (List.mem_cons_of_mem _ (List.mem_append_right _ wgL_1_23.1)) dX6_text_50 ?_
          refine g_callVi (st := []) (As := []) C EX_ok EX_vm 53 5 0 (tX2_docketStands F u5) rfl gX6_text_X2_docketStands rfl rfl rfl (by decide +kernel) ⟨Nat.le_of_ble_eq_true rfl, Nat.le_of_ble_eq_true rfl⟩ rfl rfl rfl (Nat.le_of_ble_eq_true rfl) dX6_text_53 (fun r15 u14 => ?_)
          refine g_if_eq C 56 63 dX6_text_56 (by decide) ?_ ?_
          · skip
            exact g_sub _ [0, 1] rfl (hJ63 u14)
          · skip
            refine g_iconst C 59 1 dX6_text_59 rfl ?_
            refine g_goto C 60 64 dX6_text_60 (by decide) ?_
            exact g_sub _ [0, 1] rfl (hJ64 1 u14)
  · skip
    refine g_sub _ [2, 1, 0] rfl ?_
    refine g_lq2 (fun (x16 : Int32) (x17 : Int32) => [(0, .ref (ad 0)), (1, .int x16), (2, .int x17)]) (fun self19 hself19 x16 x17 u18 => ?_) F 0 r2 u1
    rw [bX6_text_10]
    refine g_iload_n C 10 2 dX6_text_10 rfl ?_
    refine g_if_eq C 11 45 dX6_text_11 (by decide) ?_ ?_
    · skip
      exact g_sub _ [0, 1, 2] rfl (hJ45 x16 x17 u18)
    · skip
      refine g_iload_n C 14 1 dX6_text_14 rfl ?_
      refine g_sipush C 15 160 dX6_text_15 rfl ?_
      refine g_icmp_ge C 18 45 dX6_text_18 (by decide) ?_ ?_
      · skip
        exact g_sub _ [0, 1, 2] rfl (hJ45 x16 x17 u18)
      · skip
        refine g_aload_n C 21 0 dX6_text_21 rfl ?_
        refine gfX_X6_reader C 22 iX6 (List.mem_cons_of_mem _ (List.mem_append_right _ wgL_1_23.1)) dX6_text_22 ?_
        refine g_callVi (st := []) (As := []) C EX_ok EX_vm 25 5 0 (tX2_isAtEnd F u18) rfl gX6_text_X2_isAtEnd rfl rfl rfl (by decide +kernel) ⟨Nat.le_of_ble_eq_true rfl, Nat.le_of_ble_eq_true rfl⟩ rfl rfl rfl (Nat.le_of_ble_eq_true rfl) dX6_text_25 (fun r21 u20 => ?_)
        refine g_if_ne C 28 45 dX6_text_28 (by decide) ?_ ?_
        · skip
          exact g_sub _ [0, 1, 2] rfl (hJ45 x16 x17 u20)
        · skip
          refine g_aload_n C 31 0 dX6_text_31 rfl ?_
          refine gfX_X6_reader C 32 iX6 (List.mem_cons_of_mem _ (List.mem_append_right _ wgL_1_23.1)) dX6_text_32 ?_
          refine g_callVi (st := []) (As := []) C EX_ok EX_vm 35 5 0 (tX2_takesLine F u20) rfl gX6_text_X2_takesLine rfl rfl rfl (by decide +kernel) ⟨Nat.le_of_ble_eq_true rfl, Nat.le_of_ble_eq_true rfl⟩ rfl rfl rfl (Nat.le_of_ble_eq_true rfl) dX6_text_35 (fun r23 u22 => ?_)
          refine g_istore_n C 38 [(2, .int r23), (0, .ref (ad 0)), (1, .int x16)] dX6_text_38 (by decide) rfl ?_
          refine g_iinc C 39 2 [(1, .int (x16 + 1)), (2, .int r23), (0, .ref (ad 0))] dX6_text_39 rfl rfl (by decide) rfl ?_
          refine g_goto C 42 10 dX6_text_42 (by decide) ?_
          exact g_sub _ [2, 0, 1] rfl (hself19 (x16 + 1) r23 u22)
def pX6_fault (F : Nat)  (u : St) : Option (Int32 × St) :=
  some ((u.1 18), u)
set_option maxRecDepth 100000 in
set_option maxHeartbeats 4000000 in
theorem tX6_fault {l : Launch} {D : va_G} {cI cZ : ClassId} {ad : Nat → Nat} {tBURNS tFLAME_BOUNDS : Nat} {tS : Option Nat} {adK adV : Nat → Nat} (F : Nat)  (u : St) : CtI l D [(cI, .int), (cZ, .boolean)] (wX ad cI cZ) (EX tBURNS tFLAME_BOUNDS tS adK adV) yX6_fault wsX6_fault ({ frames := 0, cells := 0, slots := 0, locals := 0 } : Room) [.ref (ad 0)] u (pX6_fault F u) := by
  refine ctI_of (own := RX6) (cc := cX6_fault) (n := 1) (ret := (some .int)) (by decide) rfl rfl (Nat.le_of_ble_eq_true rfl) (lv := [(0, .ref (ad 0))]) rfl (fun C => ?_)
  have iX2 : ∀ w ∈ wsX20, w ∈ wsX6_fault := fun w h => List.mem_cons_of_mem _ (List.mem_append_right _ (inlX2 w h))
  have iX6 : ∀ w ∈ wsX60, w ∈ wsX6_fault := fun w h => List.mem_cons_of_mem _ (List.mem_append_right _ (inlX6 w h))
  rw [pX6_fault]
  refine g_aload_n C 0 0 dX6_fault_0 rfl ?_
  refine gfX_X6_reader C 1 iX6 (List.mem_cons_of_mem _ (List.mem_append_right _ wgL_1_23.1)) dX6_fault_1 ?_
  refine gfX_X2_wrong C 4 iX2 (List.mem_cons_of_mem _ (List.mem_append_right _ wgL_17_20.1)) dX6_fault_4 ?_
  exact g_iret C 7 dX6_fault_7
def bX6_bitsOf_5 (F : Nat) (p1 : Nat) (p2 : Int32) (p3 : Int32) (self4 : Int32 → Int32 → St → Option (Int32 × St)) (x1 : Int32) (x2 : Int32) (u3 : St) : Option (Int32 × St) :=
  if p2 ≤ x2 then some (x1, u3) else if (Int32.ofNat (lenX p1)) ≤ x2 then some (x1, u3) else gd (inb x2 (lenX p1)) (jn (fun (a5 : Int32) (u6 : St) => vl (x1 ||| a5) (fun v7 => (self4 v7 (x2 + 1) u6))) (fun (J35 : Int32 → St → Option (Int32 × St)) => if (u3.2 p1 (Int32.toNatClampNeg x2)) = p3 then (J35 (1 <<< (x2 &&& 31)) u3) else (J35 0 u3)))
def pX6_bitsOf (F : Nat) (p1 : Nat) (p2 : Int32) (p3 : Int32) (u : St) : Option (Int32 × St) :=
  (lq2 (bX6_bitsOf_5 F p1 p2 p3) F 0 0 u)
set_option maxRecDepth 100000 in
set_option maxHeartbeats 4000000 in
theorem tX6_bitsOf {l : Launch} {D : va_G} {cI cZ : ClassId} {ad : Nat → Nat} {tBURNS tFLAME_BOUNDS : Nat} {tS : Option Nat} {adK adV : Nat → Nat} (F : Nat) (p1 : Nat) (hp1 : p1 < 66) (p2 : Int32) (p3 : Int32) (u : St) : CtI l D [(cI, .int), (cZ, .boolean)] (wX ad cI cZ) (EX tBURNS tFLAME_BOUNDS tS adK adV) yX6_bitsOf wsX6_bitsOf ({ frames := 0, cells := 0, slots := 0, locals := 0 } : Room) [.ref (ad (10 + p1)), .int p2, .int p3] u (pX6_bitsOf F p1 p2 p3 u) := by
  refine ctI_of (own := RX6) (cc := cX6_bitsOf) (n := 5) (ret := (some .int)) (by decide) rfl rfl (Nat.le_of_ble_eq_true rfl) (lv := [(0, .ref (ad (10 + p1))), (1, .int p2), (2, .int p3)]) rfl (fun C => ?_)
  rw [pX6_bitsOf]
  refine g_iconst C 0 0 dX6_bitsOf_0 rfl ?_
  refine g_istore_n C 1 [(3, .int 0), (0, .ref (ad (10 + p1))), (1, .int p2), (2, .int p3)] dX6_bitsOf_1 (by decide) rfl ?_
  refine g_iconst C 2 0 dX6_bitsOf_2 rfl ?_
  refine g_istore C 3 [(4, .int 0), (3, .int 0), (0, .ref (ad (10 + p1))), (1, .int p2), (2, .int p3)] dX6_bitsOf_3 (by decide) rfl ?_
  refine g_sub _ [2, 3, 4, 1, 0] rfl ?_
  refine g_lq2 (fun (x1 : Int32) (x2 : Int32) => [(0, .ref (ad (10 + p1))), (1, .int p2), (2, .int p3), (3, .int x1), (4, .int x2)]) (fun self4 hself4 x1 x2 u3 => ?_) F 0 0 u
  rw [bX6_bitsOf_5]
  refine g_iload C 5 4 dX6_bitsOf_5 rfl ?_
  refine g_iload_n C 7 1 dX6_bitsOf_7 rfl ?_
  refine g_icmp_ge C 8 43 dX6_bitsOf_8 (by decide) ?_ ?_
  · skip
    refine g_iload_n C 43 3 dX6_bitsOf_43 rfl ?_
    exact g_iret C 44 dX6_bitsOf_44
  · skip
    refine g_iload C 11 4 dX6_bitsOf_11 rfl ?_
    refine g_aload_n C 13 0 dX6_bitsOf_13 rfl ?_
    refine g_alen C 14 (10 + p1) 0 (wX_arr p1 hp1) rfl dX6_bitsOf_14 ?_
    refine g_icmp_ge C 15 43 dX6_bitsOf_15 (by decide) ?_ ?_
    · skip
      refine g_iload_n C 43 3 dX6_bitsOf_43 rfl ?_
      exact g_iret C 44 dX6_bitsOf_44
    · skip
      refine g_iload_n C 18 3 dX6_bitsOf_18 rfl ?_
      refine g_aload_n C 19 0 dX6_bitsOf_19 rfl ?_
      refine g_iload C 20 4 dX6_bitsOf_20 rfl ?_
      refine g_iald C 22 (10 + p1) 0 (wX_arr p1 hp1) rfl dX6_bitsOf_22 ?_
      refine g_iload_n C 23 2 dX6_bitsOf_23 rfl ?_
      refine g_jn1 35 (fun (a5 : Int32) => [(0, .ref (ad (10 + p1))), (1, .int p2), (2, .int p3), (4, .int x2)]) (fun (a5 : Int32) => [.int a5, .int x1]) (fun a5 u6 => ?_) (fun J35 hJ35 => ?_)
      · skip
        refine g_ior C 35 dX6_bitsOf_35 ?_
        refine g_istore_nV C 36 (fun v7 => [(3, .int v7), (0, .ref (ad (10 + p1))), (1, .int p2), (2, .int p3), (4, .int x2)]) dX6_bitsOf_36 (by decide) (fun _ => rfl) (fun v7 => ?_)
        refine g_iinc C 37 4 [(4, .int (x2 + 1)), (3, .int v7), (0, .ref (ad (10 + p1))), (1, .int p2), (2, .int p3)] dX6_bitsOf_37 rfl rfl (by decide) rfl ?_
        refine g_goto C 40 5 dX6_bitsOf_40 (by decide) ?_
        exact g_sub _ [2, 3, 4, 1, 0] rfl (hself4 v7 (x2 + 1) u6)
      · skip
        refine g_icmp_ne C 24 34 dX6_bitsOf_24 (by decide) ?_ ?_
        · skip
          refine g_iconst C 34 0 dX6_bitsOf_34 rfl ?_
          exact g_sub _ [0, 1, 2, 4] rfl (hJ35 0 u3)
        · skip
          refine g_iconst C 27 1 dX6_bitsOf_27 rfl ?_
          refine g_iload C 28 4 dX6_bitsOf_28 rfl ?_
          refine g_ishl C 30 dX6_bitsOf_30 ?_
          refine g_goto C 31 35 dX6_bitsOf_31 (by decide) ?_
          exact g_sub _ [0, 1, 2, 4] rfl (hJ35 (1 <<< (x2 &&& 31)) u3)
def bX0_sumOf_4 (F : Nat) (j : Nat) (p1 : Nat) (self4 : Int32 → Int32 → St → Option (Int32 × St)) (x1 : Int32) (x2 : Int32) (u3 : St) : Option (Int32 × St) :=
  if (2 * (u3.1 (4 * j + 0))) ≤ x2 then some (x1, u3) else if (Int32.ofNat (lenX p1)) ≤ x2 then some (x1, u3) else gd (inb x2 (lenX p1)) (vl (x1 + (u3.2 p1 (Int32.toNatClampNeg x2))) (fun v5 => (self4 v5 (x2 + 1) u3)))
def pX0_sumOf (F : Nat) (j : Nat) (p1 : Nat) (u : St) : Option (Int32 × St) :=
  (lq2 (bX0_sumOf_4 F j p1) F 0 0 u)
set_option maxRecDepth 100000 in
set_option maxHeartbeats 4000000 in
theorem tX0_sumOf {l : Launch} {D : va_G} {cI cZ : ClassId} {ad : Nat → Nat} {tBURNS tFLAME_BOUNDS : Nat} {tS : Option Nat} {adK adV : Nat → Nat} (F : Nat) (j : Nat) (hj : j < 4) (p1 : Nat) (hp1 : p1 < 66) (u : St) : CtI l D [(cI, .int), (cZ, .boolean)] (wX ad cI cZ) (EX tBURNS tFLAME_BOUNDS tS adK adV) yX0_sumOf wsX0_sumOf ({ frames := 0, cells := 0, slots := 0, locals := 0 } : Room) [.ref (ad (1 + j)), .ref (ad (10 + p1))] u (pX0_sumOf F j p1 u) := by
  refine ctI_of (own := RX0) (cc := cX0_sumOf) (n := 4) (ret := (some .int)) (by decide) rfl rfl (Nat.le_of_ble_eq_true rfl) (lv := [(0, .ref (ad (1 + j))), (1, .ref (ad (10 + p1)))]) rfl (fun C => ?_)
  have iX0 : ∀ w ∈ wsX00, w ∈ wsX0_sumOf := fun w h => List.mem_cons_of_mem _ (List.mem_append_right _ (inlX0 w h))
  rw [pX0_sumOf]
  refine g_iconst C 0 0 dX0_sumOf_0 rfl ?_
  refine g_istore_n C 1 [(2, .int 0), (0, .ref (ad (1 + j))), (1, .ref (ad (10 + p1)))] dX0_sumOf_1 (by decide) rfl ?_
  refine g_iconst C 2 0 dX0_sumOf_2 rfl ?_
  refine g_istore_n C 3 [(3, .int 0), (2, .int 0), (0, .ref (ad (1 + j))), (1, .ref (ad (10 + p1)))] dX0_sumOf_3 (by decide) rfl ?_
  refine g_sub _ [2, 3, 1, 0] rfl ?_
  refine g_lq2 (fun (x1 : Int32) (x2 : Int32) => [(0, .ref (ad (1 + j))), (1, .ref (ad (10 + p1))), (2, .int x1), (3, .int x2)]) (fun self4 hself4 x1 x2 u3 => ?_) F 0 0 u
  rw [bX0_sumOf_4]
  refine g_iload_n C 4 3 dX0_sumOf_4 rfl ?_
  refine g_iconst C 5 2 dX0_sumOf_5 rfl ?_
  refine g_aload_n C 6 0 dX0_sumOf_6 rfl ?_
  refine gfX_X0_cases j hj C 7 iX0 (List.mem_cons_of_mem _ (List.mem_append_right _ wgL_2_23.1)) dX0_sumOf_7 ?_
  refine g_imul C 10 dX0_sumOf_10 ?_
  refine g_icmp_ge C 11 32 dX0_sumOf_11 (by decide) ?_ ?_
  · skip
    refine g_iload_n C 32 2 dX0_sumOf_32 rfl ?_
    exact g_iret C 33 dX0_sumOf_33
  · skip
    refine g_iload_n C 14 3 dX0_sumOf_14 rfl ?_
    refine g_aload_n C 15 1 dX0_sumOf_15 rfl ?_
    refine g_alen C 16 (10 + p1) 0 (wX_arr p1 hp1) rfl dX0_sumOf_16 ?_
    refine g_icmp_ge C 17 32 dX0_sumOf_17 (by decide) ?_ ?_
    · skip
      refine g_iload_n C 32 2 dX0_sumOf_32 rfl ?_
      exact g_iret C 33 dX0_sumOf_33
    · skip
      refine g_iload_n C 20 2 dX0_sumOf_20 rfl ?_
      refine g_aload_n C 21 1 dX0_sumOf_21 rfl ?_
      refine g_iload_n C 22 3 dX0_sumOf_22 rfl ?_
      refine g_iald C 23 (10 + p1) 0 (wX_arr p1 hp1) rfl dX0_sumOf_23 ?_
      refine g_iadd C 24 dX0_sumOf_24 ?_
      refine g_istore_nV C 25 (fun v5 => [(2, .int v5), (0, .ref (ad (1 + j))), (1, .ref (ad (10 + p1))), (3, .int x2)]) dX0_sumOf_25 (by decide) (fun _ => rfl) (fun v5 => ?_)
      refine g_iinc C 26 3 [(3, .int (x2 + 1)), (2, .int v5), (0, .ref (ad (1 + j))), (1, .ref (ad (10 + p1)))] dX0_sumOf_26 rfl rfl (by decide) rfl ?_
      refine g_goto C 29 4 dX0_sumOf_29 (by decide) ?_
      exact g_sub _ [2, 3, 1, 0] rfl (hself4 v5 (x2 + 1) u3)
end
section
def pX6_rule (F : Nat) (p1 : Int32) (u : St) : Option (Int32 × St) :=
  if p1 = 0 then some ((u.1 0), u) else if p1 = 1 then some ((u.1 1), u) else if p1 = 2 then some ((u.1 2), u) else if p1 = 3 then some ((u.1 3), u) else if p1 = 4 then bd (pX6_bitsOf F 3 (u.1 0) 1 u) (fun (r2 : Int32) (u1 : St) => some (r2, u1)) else if p1 = 5 then bd (pX6_bitsOf F 3 (u.1 0) 2 u) (fun (r4 : Int32) (u3 : St) => some (r4, u3)) else if p1 = 6 then bd (pX6_bitsOf F 3 (u.1 0) 3 u) (fun (r6 : Int32) (u5 : St) => some (r6, u5)) else if p1 = 7 then bd (pX0_sumOf F 0 1 u) (fun (r8 : Int32) (u7 : St) => some (r8, u7)) else some ((-1), u)
set_option maxRecDepth 100000 in
set_option maxHeartbeats 4000000 in
theorem tX6_rule {l : Launch} {D : va_G} {cI cZ : ClassId} {ad : Nat → Nat} {tBURNS tFLAME_BOUNDS : Nat} {tS : Option Nat} {adK adV : Nat → Nat} (F : Nat) (p1 : Int32) (u : St) : CtI l D [(cI, .int), (cZ, .boolean)] (wX ad cI cZ) (EX tBURNS tFLAME_BOUNDS tS adK adV) yX6_rule wsX6_rule ({ frames := 1, cells := 0, slots := 0, locals := 24 } : Room) [.ref (ad 0), .int p1] u (pX6_rule F p1 u) := by
  refine ctI_of (own := RX6) (cc := cX6_rule) (n := 2) (ret := (some .int)) (by decide) rfl rfl (Nat.le_of_ble_eq_true rfl) (lv := [(0, .ref (ad 0)), (1, .int p1)]) rfl (fun C => ?_)
  have iX0 : ∀ w ∈ wsX00, w ∈ wsX6_rule := fun w h => List.mem_cons_of_mem _ (List.mem_append_right _ (inlX0 w h))
  have iX6 : ∀ w ∈ wsX60, w ∈ wsX6_rule := fun w h => List.mem_cons_of_mem _ (List.mem_append_right _ (inlX6 w h))
  rw [pX6_rule]
  refine g_iload_n C 0 1 dX6_rule_0 rfl ?_
  refine g_tsw C 1 48 0 dX6_rule_1 (by decide) rfl (by decide) ?_ (fun q0 => ?_)
  · skip
    refine g_aload_n C 48 0 dX6_rule_48 rfl ?_
    refine gfX_X6_court C 49 iX6 (List.mem_cons_of_mem _ (List.mem_append_right _ wgL_1_15.1)) dX6_rule_49 ?_
    refine gfX_X0_cases 0 (by decide) C 52 iX0 (List.mem_cons_of_mem _ (List.mem_append_right _ wgL_18_5.1)) dX6_rule_52 ?_
    exact g_iret C 55 dX6_rule_55
  refine g_tsw C 1 56 1 dX6_rule_1 (by decide) rfl (by decide) ?_ (fun q1 => ?_)
  · skip
    refine g_aload_n C 56 0 dX6_rule_56 rfl ?_
    refine gfX_X6_court C 57 iX6 (List.mem_cons_of_mem _ (List.mem_append_right _ wgL_1_15.1)) dX6_rule_57 ?_
    refine gfX_X0_judges 0 (by decide) C 60 iX0 (List.mem_cons_of_mem _ (List.mem_append_right _ wgL_18_6.1)) dX6_rule_60 ?_
    exact g_iret C 63 dX6_rule_63
  refine g_tsw C 1 64 2 dX6_rule_1 (by decide) rfl (by decide) ?_ (fun q2 => ?_)
  · skip
    refine g_aload_n C 64 0 dX6_rule_64 rfl ?_
    refine gfX_X6_court C 65 iX6 (List.mem_cons_of_mem _ (List.mem_append_right _ wgL_1_15.1)) dX6_rule_65 ?_
    refine gfX_X0_draughts 0 (by decide) C 68 iX0 (List.mem_cons_of_mem _ (List.mem_append_right _ wgL_18_7.1)) dX6_rule_68 ?_
    exact g_iret C 71 dX6_rule_71
  refine g_tsw C 1 72 3 dX6_rule_1 (by decide) rfl (by decide) ?_ (fun q3 => ?_)
  · skip
    refine g_aload_n C 72 0 dX6_rule_72 rfl ?_
    refine gfX_X6_court C 73 iX6 (List.mem_cons_of_mem _ (List.mem_append_right _ wgL_1_15.1)) dX6_rule_73 ?_
    refine gfX_X0_hearings 0 (by decide) C 76 iX0 (List.mem_cons_of_mem _ (List.mem_append_right _ wgL_18_8.1)) dX6_rule_76 ?_
    exact g_iret C 79 dX6_rule_79
  refine g_tsw C 1 80 4 dX6_rule_1 (by decide) rfl (by decide) ?_ (fun q4 => ?_)
  · skip
    refine g_aload_n C 80 0 dX6_rule_80 rfl ?_
    refine gfX_X6_court C 81 iX6 (List.mem_cons_of_mem _ (List.mem_append_right _ wgL_1_15.1)) dX6_rule_81 ?_
    refine gfX_X0_verdict 0 (by decide) C 84 iX0 (List.mem_cons_of_mem _ (List.mem_append_right _ wgL_18_9.1)) dX6_rule_84 ?_
    refine g_aload_n C 87 0 dX6_rule_87 rfl ?_
    refine gfX_X6_court C 88 iX6 (List.mem_cons_of_mem _ (List.mem_append_right _ wgL_1_15.1)) dX6_rule_88 ?_
    refine gfX_X0_cases 0 (by decide) C 91 iX0 (List.mem_cons_of_mem _ (List.mem_append_right _ wgL_18_5.1)) dX6_rule_91 ?_
    refine g_iconst C 94 1 dX6_rule_94 rfl ?_
    refine g_callSi (st := []) (As := [.ref (ad (10 + 3)), .int (u.1 0), .int 1]) C EX_ok EX_vm 95 3 (tX6_bitsOf F 3 (by decide) (u.1 0) 1 u) rfl gX6_rule_X6_bitsOf rfl rfl rfl (by decide +kernel) ⟨Nat.le_of_ble_eq_true rfl, Nat.le_of_ble_eq_true rfl⟩ rfl (Nat.le_of_ble_eq_true rfl) dX6_rule_95 (fun r2 u1 => ?_)
    exact g_iret C 98 dX6_rule_98
  refine g_tsw C 1 99 5 dX6_rule_1 (by decide) rfl (by decide) ?_ (fun q5 => ?_)
  · skip
    refine g_aload_n C 99 0 dX6_rule_99 rfl ?_
    refine gfX_X6_court C 100 iX6 (List.mem_cons_of_mem _ (List.mem_append_right _ wgL_1_15.1)) dX6_rule_100 ?_
    refine gfX_X0_verdict 0 (by decide) C 103 iX0 (List.mem_cons_of_mem _ (List.mem_append_right _ wgL_18_9.1)) dX6_rule_103 ?_
    refine g_aload_n C 106 0 dX6_rule_106 rfl ?_
    refine gfX_X6_court C 107 iX6 (List.mem_cons_of_mem _ (List.mem_append_right _ wgL_1_15.1)) dX6_rule_107 ?_
    refine gfX_X0_cases 0 (by decide) C 110 iX0 (List.mem_cons_of_mem _ (List.mem_append_right _ wgL_18_5.1)) dX6_rule_110 ?_
    refine g_iconst C 113 2 dX6_rule_113 rfl ?_
    refine g_callSi (st := []) (As := [.ref (ad (10 + 3)), .int (u.1 0), .int 2]) C EX_ok EX_vm 114 3 (tX6_bitsOf F 3 (by decide) (u.1 0) 2 u) rfl gX6_rule_X6_bitsOf rfl rfl rfl (by decide +kernel) ⟨Nat.le_of_ble_eq_true rfl, Nat.le_of_ble_eq_true rfl⟩ rfl (Nat.le_of_ble_eq_true rfl) dX6_rule_114 (fun r4 u3 => ?_)
    exact g_iret C 117 dX6_rule_117
  refine g_tsw C 1 118 6 dX6_rule_1 (by decide) rfl (by decide) ?_ (fun q6 => ?_)
  · skip
    refine g_aload_n C 118 0 dX6_rule_118 rfl ?_
    refine gfX_X6_court C 119 iX6 (List.mem_cons_of_mem _ (List.mem_append_right _ wgL_1_15.1)) dX6_rule_119 ?_
    refine gfX_X0_verdict 0 (by decide) C 122 iX0 (List.mem_cons_of_mem _ (List.mem_append_right _ wgL_18_9.1)) dX6_rule_122 ?_
    refine g_aload_n C 125 0 dX6_rule_125 rfl ?_
    refine gfX_X6_court C 126 iX6 (List.mem_cons_of_mem _ (List.mem_append_right _ wgL_1_15.1)) dX6_rule_126 ?_
    refine gfX_X0_cases 0 (by decide) C 129 iX0 (List.mem_cons_of_mem _ (List.mem_append_right _ wgL_18_5.1)) dX6_rule_129 ?_
    refine g_iconst C 132 3 dX6_rule_132 rfl ?_
    refine g_callSi (st := []) (As := [.ref (ad (10 + 3)), .int (u.1 0), .int 3]) C EX_ok EX_vm 133 3 (tX6_bitsOf F 3 (by decide) (u.1 0) 3 u) rfl gX6_rule_X6_bitsOf rfl rfl rfl (by decide +kernel) ⟨Nat.le_of_ble_eq_true rfl, Nat.le_of_ble_eq_true rfl⟩ rfl (Nat.le_of_ble_eq_true rfl) dX6_rule_133 (fun r6 u5 => ?_)
    exact g_iret C 136 dX6_rule_136
  refine g_tsw C 1 137 7 dX6_rule_1 (by decide) rfl (by decide) ?_ (fun q7 => ?_)
  · skip
    refine g_aload_n C 137 0 dX6_rule_137 rfl ?_
    refine gfX_X6_court C 138 iX6 (List.mem_cons_of_mem _ (List.mem_append_right _ wgL_1_15.1)) dX6_rule_138 ?_
    refine g_aload_n C 141 0 dX6_rule_141 rfl ?_
    refine gfX_X6_court C 142 iX6 (List.mem_cons_of_mem _ (List.mem_append_right _ wgL_1_15.1)) dX6_rule_142 ?_
    refine gfX_X0_length 0 (by decide) C 145 iX0 (List.mem_cons_of_mem _ (List.mem_append_right _ wgL_18_10.1)) dX6_rule_145 ?_
    refine g_callVi (st := []) (As := [.ref (ad (10 + 1))]) C EX_ok EX_vm 148 1 1 (tX0_sumOf F 0 (by decide) 1 (by decide) u) rfl gX6_rule_X0_sumOf rfl rfl rfl (by decide +kernel) ⟨Nat.le_of_ble_eq_true rfl, Nat.le_of_ble_eq_true rfl⟩ (wX_X0 ad cI cZ _ 0 (by decide)) rfl rfl (Nat.le_of_ble_eq_true rfl) dX6_rule_148 (fun r8 u7 => ?_)
    exact g_iret C 151 dX6_rule_151
  refine g_tswD C 1 152 dX6_rule_1 (by have r0 := lv_neT (a := 0) q0 rfl; have r1 := lv_neT (a := 1) q1 rfl; have r2 := lv_neT (a := 2) q2 rfl; have r3 := lv_neT (a := 3) q3 rfl; have r4 := lv_neT (a := 4) q4 rfl; have r5 := lv_neT (a := 5) q5 rfl; have r6 := lv_neT (a := 6) q6 rfl; have r7 := lv_neT (a := 7) q7 rfl; omega) (by decide) ?_
  refine g_iconst C 152 (-1) dX6_rule_152 rfl ?_
  exact g_iret C 153 dX6_rule_153
def pX6_isSide (F : Nat) (p1 : Int32) (u : St) : Option (Int32 × St) :=
  bd (pX6_isIn F (Int32.toInt64 p1) 0 1 u) (fun (r2 : Int32) (u1 : St) => gd (z01 r2) (some (r2, u1)))
set_option maxRecDepth 100000 in
set_option maxHeartbeats 4000000 in
theorem tX6_isSide {l : Launch} {D : va_G} {cI cZ : ClassId} {ad : Nat → Nat} {tBURNS tFLAME_BOUNDS : Nat} {tS : Option Nat} {adK adV : Nat → Nat} (F : Nat) (p1 : Int32) (u : St) : CtI l D [(cI, .int), (cZ, .boolean)] (wX ad cI cZ) (EX tBURNS tFLAME_BOUNDS tS adK adV) yX6_isSide wsX6_isSide ({ frames := 1, cells := 0, slots := 0, locals := 23 } : Room) [.int p1] u (pX6_isSide F p1 u) := by
  refine ctI_of (own := RX6) (cc := cX6_isSide) (n := 1) (ret := (some .boolean)) (by decide) rfl rfl (Nat.le_of_ble_eq_true rfl) (lv := [(0, .int p1)]) rfl (fun C => ?_)
  rw [pX6_isSide]
  refine g_iload_n C 0 0 dX6_isSide_0 rfl ?_
  refine g_i2l C 1 dX6_isSide_1 ?_
  refine g_iconst C 2 0 dX6_isSide_2 rfl ?_
  refine g_iconst C 3 1 dX6_isSide_3 rfl ?_
  refine g_callSi (st := []) (As := [.long (Int32.toInt64 p1), .int 0, .int 1]) C EX_ok EX_vm 4 3 (tX6_isIn F (Int32.toInt64 p1) 0 1 u) rfl gX6_isSide_X6_isIn rfl rfl rfl (by decide +kernel) ⟨Nat.le_of_ble_eq_true rfl, Nat.le_of_ble_eq_true rfl⟩ rfl (Nat.le_of_ble_eq_true rfl) dX6_isSide_4 (fun r2 u1 => ?_)
  exact g_zret C 7 dX6_isSide_7
def pX6_isFlame (F : Nat) (p1 : Int32) (p2 : Int32) (u : St) : Option (Int32 × St) :=
  bd (pX0_hasCase F 0 (Int32.toInt64 p1) u) (fun (r2 : Int32) (u1 : St) => if r2 = 0 then some (0, u1) else bd (pX6_isSide F p2 u1) (fun (r4 : Int32) (u3 : St) => if r4 = 0 then some (0, u3) else some (1, u3)))
set_option maxRecDepth 100000 in
set_option maxHeartbeats 4000000 in
theorem tX6_isFlame {l : Launch} {D : va_G} {cI cZ : ClassId} {ad : Nat → Nat} {tBURNS tFLAME_BOUNDS : Nat} {tS : Option Nat} {adK adV : Nat → Nat} (F : Nat) (p1 : Int32) (p2 : Int32) (u : St) : CtI l D [(cI, .int), (cZ, .boolean)] (wX ad cI cZ) (EX tBURNS tFLAME_BOUNDS tS adK adV) yX6_isFlame wsX6_isFlame ({ frames := 2, cells := 0, slots := 0, locals := 45 } : Room) [.ref (ad 0), .int p1, .int p2] u (pX6_isFlame F p1 p2 u) := by
  refine ctI_of (own := RX6) (cc := cX6_isFlame) (n := 3) (ret := (some .boolean)) (by decide) rfl rfl (Nat.le_of_ble_eq_true rfl) (lv := [(0, .ref (ad 0)), (1, .int p1), (2, .int p2)]) rfl (fun C => ?_)
  have iX6 : ∀ w ∈ wsX60, w ∈ wsX6_isFlame := fun w h => List.mem_cons_of_mem _ (List.mem_append_right _ (inlX6 w h))
  rw [pX6_isFlame]
  refine g_aload_n C 0 0 dX6_isFlame_0 rfl ?_
  refine gfX_X6_court C 1 iX6 (List.mem_cons_of_mem _ (List.mem_append_right _ wgL_1_15.1)) dX6_isFlame_1 ?_
  refine g_iload_n C 4 1 dX6_isFlame_4 rfl ?_
  refine g_i2l C 5 dX6_isFlame_5 ?_
  refine g_callVi (st := []) (As := [.long (Int32.toInt64 p1)]) C EX_ok EX_vm 6 1 1 (tX0_hasCase F 0 (by decide) (Int32.toInt64 p1) u) rfl gX6_isFlame_X0_hasCase rfl rfl rfl (by decide +kernel) ⟨Nat.le_of_ble_eq_true rfl, Nat.le_of_ble_eq_true rfl⟩ (wX_X0 ad cI cZ _ 0 (by decide)) rfl rfl (Nat.le_of_ble_eq_true rfl) dX6_isFlame_6 (fun r2 u1 => ?_)
  refine g_if_eq C 9 23 dX6_isFlame_9 (by decide) ?_ ?_
  · skip
    refine g_iconst C 23 0 dX6_isFlame_23 rfl ?_
    exact g_nret C 24 rfl dX6_isFlame_24
  · skip
    refine g_iload_n C 12 2 dX6_isFlame_12 rfl ?_
    refine g_callSi (st := []) (As := [.int p2]) C EX_ok EX_vm 13 1 (tX6_isSide F p2 u1) rfl gX6_isFlame_X6_isSide rfl rfl rfl (by decide +kernel) ⟨Nat.le_of_ble_eq_true rfl, Nat.le_of_ble_eq_true rfl⟩ rfl (Nat.le_of_ble_eq_true rfl) dX6_isFlame_13 (fun r4 u3 => ?_)
    refine g_if_eq C 16 23 dX6_isFlame_16 (by decide) ?_ ?_
    · skip
      refine g_iconst C 23 0 dX6_isFlame_23 rfl ?_
      exact g_nret C 24 rfl dX6_isFlame_24
    · skip
      refine g_iconst C 19 1 dX6_isFlame_19 rfl ?_
      refine g_goto C 20 24 dX6_isFlame_20 (by decide) ?_
      exact g_nret C 24 rfl dX6_isFlame_24
def pX6_flame (F : Nat) (p1 : Int32) (p2 : Int32) (p3 : Int32) (u : St) : Option (Int32 × St) :=
  bd (pX6_isFlame F p1 p2 u) (fun (r2 : Int32) (u1 : St) => if r2 = 0 then some ((-1), u1) else vl ((2 * p1) + p2) (fun v3 => if p3 = 0 then gd (inb v3 8) (some ((u1.2 0 (Int32.toNatClampNeg v3)), u1)) else if p3 = 1 then gd (inb v3 8) (some ((u1.2 1 (Int32.toNatClampNeg v3)), u1)) else if p3 = 2 then gd (inb v3 8) (some ((u1.2 2 (Int32.toNatClampNeg v3)), u1)) else if p3 = 3 then gd (inb v3 8) (gd (inb (u1.2 0 (Int32.toNatClampNeg v3)) 4) (some ((tabBURNS (Int32.toNatClampNeg (u1.2 0 (Int32.toNatClampNeg v3)))), u1))) else some ((-1), u1)))
set_option maxRecDepth 100000 in
set_option maxHeartbeats 4000000 in
theorem tX6_flame {l : Launch} {D : va_G} {cI cZ : ClassId} {ad : Nat → Nat} {tBURNS tFLAME_BOUNDS : Nat} {tS : Option Nat} {adK adV : Nat → Nat} (F : Nat) (p1 : Int32) (p2 : Int32) (p3 : Int32) (u : St) : CtI l D [(cI, .int), (cZ, .boolean)] (wX ad cI cZ) (EX tBURNS tFLAME_BOUNDS tS adK adV) yX6_flame wsX6_flame ({ frames := 3, cells := 0, slots := 0, locals := 67 } : Room) [.ref (ad 0), .int p1, .int p2, .int p3] u (pX6_flame F p1 p2 p3 u) := by
  refine ctI_of (own := RX6) (cc := cX6_flame) (n := 5) (ret := (some .int)) (by decide) rfl rfl (Nat.le_of_ble_eq_true rfl) (lv := [(0, .ref (ad 0)), (1, .int p1), (2, .int p2), (3, .int p3)]) rfl (fun C => ?_)
  have iX0 : ∀ w ∈ wsX00, w ∈ wsX6_flame := fun w h => List.mem_cons_of_mem _ (List.mem_append_right _ (inlX0 w h))
  have iX6 : ∀ w ∈ wsX60, w ∈ wsX6_flame := fun w h => List.mem_cons_of_mem _ (List.mem_append_right _ (inlX6 w h))
  rw [pX6_flame]
  refine g_aload_n C 0 0 dX6_flame_0 rfl ?_
  refine g_iload_n C 1 1 dX6_flame_1 rfl ?_
  refine g_iload_n C 2 2 dX6_flame_2 rfl ?_
  refine g_callVi (st := []) (As := [.int p1, .int p2]) C EX_ok EX_vm 3 0 2 (tX6_isFlame F p1 p2 u) rfl gX6_flame_X6_isFlame rfl rfl rfl (by decide +kernel) ⟨Nat.le_of_ble_eq_true rfl, Nat.le_of_ble_eq_true rfl⟩ rfl rfl rfl (Nat.le_of_ble_eq_true rfl) dX6_flame_3 (fun r2 u1 => ?_)
  refine g_if_ne C 6 11 dX6_flame_6 (by decide) ?_ ?_
  · skip
    refine g_iconst C 11 2 dX6_flame_11 rfl ?_
    refine g_iload_n C 12 1 dX6_flame_12 rfl ?_
    refine g_imul C 13 dX6_flame_13 ?_
    refine g_iload_n C 14 2 dX6_flame_14 rfl ?_
    refine g_iadd C 15 dX6_flame_15 ?_
    refine g_istoreV C 16 (fun v3 => [(4, .int v3), (0, .ref (ad 0)), (1, .int p1), (2, .int p2), (3, .int p3)]) dX6_flame_16 (by decide) (fun _ => rfl) (fun v3 => ?_)
    refine g_iload_n C 18 4 dX6_flame_18 rfl ?_
    refine g_tsw C 19 48 0 dX6_flame_19 (by decide) rfl (by decide) ?_ (fun q0 => ?_)
    · skip
      refine g_aload_n C 48 1 dX6_flame_48 rfl ?_
      refine gfX_X6_court C 49 iX6 (List.mem_cons_of_mem _ (List.mem_append_right _ wgL_1_15.1)) dX6_flame_49 ?_
      refine gfX_X0_kind 0 (by decide) C 52 iX0 (List.mem_cons_of_mem _ (List.mem_append_right _ wgL_19_10.1)) dX6_flame_52 ?_
      refine g_iload C 55 0 dX6_flame_55 rfl ?_
      refine g_iald C 57 (10 + 0) 0 (wX_arr 0 (by decide)) rfl dX6_flame_57 ?_
      exact g_iret C 58 dX6_flame_58
    refine g_tsw C 19 59 1 dX6_flame_19 (by decide) rfl (by decide) ?_ (fun q1 => ?_)
    · skip
      refine g_aload_n C 59 1 dX6_flame_59 rfl ?_
      refine gfX_X6_court C 60 iX6 (List.mem_cons_of_mem _ (List.mem_append_right _ wgL_1_15.1)) dX6_flame_60 ?_
      refine gfX_X0_length 0 (by decide) C 63 iX0 (List.mem_cons_of_mem _ (List.mem_append_right _ wgL_18_10.1)) dX6_flame_63 ?_
      refine g_iload C 66 0 dX6_flame_66 rfl ?_
      refine g_iald C 68 (10 + 1) 0 (wX_arr 1 (by decide)) rfl dX6_flame_68 ?_
      exact g_iret C 69 dX6_flame_69
    refine g_tsw C 19 70 2 dX6_flame_19 (by decide) rfl (by decide) ?_ (fun q2 => ?_)
    · skip
      refine g_aload_n C 70 1 dX6_flame_70 rfl ?_
      refine gfX_X6_court C 71 iX6 (List.mem_cons_of_mem _ (List.mem_append_right _ wgL_1_15.1)) dX6_flame_71 ?_
      refine gfX_X0_guard 0 (by decide) C 74 iX0 (List.mem_cons_of_mem _ (List.mem_append_right _ wgL_19_11.1)) dX6_flame_74 ?_
      refine g_iload C 77 0 dX6_flame_77 rfl ?_
      refine g_iald C 79 (10 + 2) 0 (wX_arr 2 (by decide)) rfl dX6_flame_79 ?_
      exact g_iret C 80 dX6_flame_80
    refine g_tsw C 19 81 3 dX6_flame_19 (by decide) rfl (by decide) ?_ (fun q3 => ?_)
    · skip
      refine g_gets C 81 (EX_zBURNS C.2.2.2.2.2.2.2.2.1) (by decide +kernel) dX6_flame_81 ?_
      refine g_aload_n C 84 1 dX6_flame_84 rfl ?_
      refine gfX_X6_court C 85 iX6 (List.mem_cons_of_mem _ (List.mem_append_right _ wgL_1_15.1)) dX6_flame_85 ?_
      refine gfX_X0_kind 0 (by decide) C 88 iX0 (List.mem_cons_of_mem _ (List.mem_append_right _ wgL_19_10.1)) dX6_flame_88 ?_
      refine g_iload C 91 0 dX6_flame_91 rfl ?_
      refine g_iald C 93 (10 + 0) 0 (wX_arr 0 (by decide)) rfl dX6_flame_93 ?_
      refine g_ti C 94 (EX_tBURNS C.2.2.2.2.2.2.2.2.1) dX6_flame_94 ?_
      exact g_iret C 95 dX6_flame_95
    refine g_tswD C 19 96 dX6_flame_19 (by have r0 := lv_neT (a := 0) q0 rfl; have r1 := lv_neT (a := 1) q1 rfl; have r2 := lv_neT (a := 2) q2 rfl; have r3 := lv_neT (a := 3) q3 rfl; omega) (by decide) ?_
    refine g_iconst C 96 (-1) dX6_flame_96 rfl ?_
    exact g_iret C 97 dX6_flame_97
  · skip
    refine g_iconst C 9 (-1) dX6_flame_9 rfl ?_
    exact g_iret C 10 dX6_flame_10
def pX6_suit (F : Nat) (p1 : Int32) (p2 : Int32) (u : St) : Option (Int32 × St) :=
  bd (pX0_hasCase F 0 (Int32.toInt64 p1) u) (fun (r2 : Int32) (u1 : St) => if r2 = 0 then some ((-1), u1) else if p2 = 0 then gd (inb p1 4) (some ((u1.2 3 (Int32.toNatClampNeg p1)), u1)) else if p2 = 1 then gd (inb p1 4) (some ((u1.2 4 (Int32.toNatClampNeg p1)), u1)) else if p2 = 2 then gd (inb p1 4) (some ((u1.2 5 (Int32.toNatClampNeg p1)), u1)) else if p2 = 3 then gd (inb p1 4) (some ((u1.2 6 (Int32.toNatClampNeg p1)), u1)) else some ((-1), u1))
set_option maxRecDepth 100000 in
set_option maxHeartbeats 4000000 in
theorem tX6_suit {l : Launch} {D : va_G} {cI cZ : ClassId} {ad : Nat → Nat} {tBURNS tFLAME_BOUNDS : Nat} {tS : Option Nat} {adK adV : Nat → Nat} (F : Nat) (p1 : Int32) (p2 : Int32) (u : St) : CtI l D [(cI, .int), (cZ, .boolean)] (wX ad cI cZ) (EX tBURNS tFLAME_BOUNDS tS adK adV) yX6_suit wsX6_suit ({ frames := 2, cells := 0, slots := 0, locals := 45 } : Room) [.ref (ad 0), .int p1, .int p2] u (pX6_suit F p1 p2 u) := by
  refine ctI_of (own := RX6) (cc := cX6_suit) (n := 3) (ret := (some .int)) (by decide) rfl rfl (Nat.le_of_ble_eq_true rfl) (lv := [(0, .ref (ad 0)), (1, .int p1), (2, .int p2)]) rfl (fun C => ?_)
  have iX0 : ∀ w ∈ wsX00, w ∈ wsX6_suit := fun w h => List.mem_cons_of_mem _ (List.mem_append_right _ (inlX0 w h))
  have iX6 : ∀ w ∈ wsX60, w ∈ wsX6_suit := fun w h => List.mem_cons_of_mem _ (List.mem_append_right _ (inlX6 w h))
  rw [pX6_suit]
  refine g_aload_n C 0 0 dX6_suit_0 rfl ?_
  refine gfX_X6_court C 1 iX6 (List.mem_cons_of_mem _ (List.mem_append_right _ wgL_1_15.1)) dX6_suit_1 ?_
  refine g_iload_n C 4 1 dX6_suit_4 rfl ?_
  refine g_i2l C 5 dX6_suit_5 ?_
  refine g_callVi (st := []) (As := [.long (Int32.toInt64 p1)]) C EX_ok EX_vm 6 1 1 (tX0_hasCase F 0 (by decide) (Int32.toInt64 p1) u) rfl gX6_suit_X0_hasCase rfl rfl rfl (by decide +kernel) ⟨Nat.le_of_ble_eq_true rfl, Nat.le_of_ble_eq_true rfl⟩ (wX_X0 ad cI cZ _ 0 (by decide)) rfl rfl (Nat.le_of_ble_eq_true rfl) dX6_suit_6 (fun r2 u1 => ?_)
  refine g_if_ne C 9 14 dX6_suit_9 (by decide) ?_ ?_
  · skip
    refine g_iload_n C 14 2 dX6_suit_14 rfl ?_
    refine g_tsw C 15 44 0 dX6_suit_15 (by decide) rfl (by decide) ?_ (fun q0 => ?_)
    · skip
      refine g_aload_n C 44 0 dX6_suit_44 rfl ?_
      refine gfX_X6_court C 45 iX6 (List.mem_cons_of_mem _ (List.mem_append_right _ wgL_1_15.1)) dX6_suit_45 ?_
      refine gfX_X0_verdict 0 (by decide) C 48 iX0 (List.mem_cons_of_mem _ (List.mem_append_right _ wgL_18_9.1)) dX6_suit_48 ?_
      refine g_iload_n C 51 1 dX6_suit_51 rfl ?_
      refine g_iald C 52 (10 + 3) 0 (wX_arr 3 (by decide)) rfl dX6_suit_52 ?_
      exact g_iret C 53 dX6_suit_53
    refine g_tsw C 15 54 1 dX6_suit_15 (by decide) rfl (by decide) ?_ (fun q1 => ?_)
    · skip
      refine g_aload_n C 54 0 dX6_suit_54 rfl ?_
      refine gfX_X6_court C 55 iX6 (List.mem_cons_of_mem _ (List.mem_append_right _ wgL_1_15.1)) dX6_suit_55 ?_
      refine gfX_X0_appealed 0 (by decide) C 58 iX0 (List.mem_cons_of_mem _ (List.mem_append_right _ wgL_20_12.1)) dX6_suit_58 ?_
      refine g_iload_n C 61 1 dX6_suit_61 rfl ?_
      refine g_iald C 62 (10 + 4) 0 (wX_arr 4 (by decide)) rfl dX6_suit_62 ?_
      exact g_iret C 63 dX6_suit_63
    refine g_tsw C 15 64 2 dX6_suit_15 (by decide) rfl (by decide) ?_ (fun q2 => ?_)
    · skip
      refine g_aload_n C 64 0 dX6_suit_64 rfl ?_
      refine gfX_X6_court C 65 iX6 (List.mem_cons_of_mem _ (List.mem_append_right _ wgL_1_15.1)) dX6_suit_65 ?_
      refine gfX_X0_endMinute 0 (by decide) C 68 iX0 (List.mem_cons_of_mem _ (List.mem_append_right _ wgL_20_13.1)) dX6_suit_68 ?_
      refine g_iload_n C 71 1 dX6_suit_71 rfl ?_
      refine g_iald C 72 (10 + 5) 0 (wX_arr 5 (by decide)) rfl dX6_suit_72 ?_
      exact g_iret C 73 dX6_suit_73
    refine g_tsw C 15 74 3 dX6_suit_15 (by decide) rfl (by decide) ?_ (fun q3 => ?_)
    · skip
      refine g_aload_n C 74 0 dX6_suit_74 rfl ?_
      refine gfX_X6_court C 75 iX6 (List.mem_cons_of_mem _ (List.mem_append_right _ wgL_1_15.1)) dX6_suit_75 ?_
      refine gfX_X0_endJudge 0 (by decide) C 78 iX0 (List.mem_cons_of_mem _ (List.mem_append_right _ wgL_20_14.1)) dX6_suit_78 ?_
      refine g_iload_n C 81 1 dX6_suit_81 rfl ?_
      refine g_iald C 82 (10 + 6) 0 (wX_arr 6 (by decide)) rfl dX6_suit_82 ?_
      exact g_iret C 83 dX6_suit_83
    refine g_tswD C 15 84 dX6_suit_15 (by have r0 := lv_neT (a := 0) q0 rfl; have r1 := lv_neT (a := 1) q1 rfl; have r2 := lv_neT (a := 2) q2 rfl; have r3 := lv_neT (a := 3) q3 rfl; omega) (by decide) ?_
    refine g_iconst C 84 (-1) dX6_suit_84 rfl ?_
    exact g_iret C 85 dX6_suit_85
  · skip
    refine g_iconst C 12 (-1) dX6_suit_12 rfl ?_
    exact g_iret C 13 dX6_suit_13
def pX6_judge (F : Nat) (p1 : Int32) (p2 : Int32) (u : St) : Option (Int32 × St) :=
  bd (pX0_hasJudge F 0 p1 u) (fun (r2 : Int32) (u1 : St) => if r2 = 0 then some ((-1), u1) else bd (pX6_isIn F (Int32.toInt64 p2) 0 1 u1) (fun (r4 : Int32) (u3 : St) => if r4 = 0 then some ((-1), u3) else if p2 = 0 then gd (inb p1 3) (some ((u3.2 7 (Int32.toNatClampNeg p1)), u3)) else gd (inb p1 3) (some ((u3.2 8 (Int32.toNatClampNeg p1)), u3))))
set_option maxRecDepth 100000 in
set_option maxHeartbeats 4000000 in
theorem tX6_judge {l : Launch} {D : va_G} {cI cZ : ClassId} {ad : Nat → Nat} {tBURNS tFLAME_BOUNDS : Nat} {tS : Option Nat} {adK adV : Nat → Nat} (F : Nat) (p1 : Int32) (p2 : Int32) (u : St) : CtI l D [(cI, .int), (cZ, .boolean)] (wX ad cI cZ) (EX tBURNS tFLAME_BOUNDS tS adK adV) yX6_judge wsX6_judge ({ frames := 2, cells := 0, slots := 0, locals := 44 } : Room) [.ref (ad 0), .int p1, .int p2] u (pX6_judge F p1 p2 u) := by
  refine ctI_of (own := RX6) (cc := cX6_judge) (n := 3) (ret := (some .int)) (by decide) rfl rfl (Nat.le_of_ble_eq_true rfl) (lv := [(0, .ref (ad 0)), (1, .int p1), (2, .int p2)]) rfl (fun C => ?_)
  have iX0 : ∀ w ∈ wsX00, w ∈ wsX6_judge := fun w h => List.mem_cons_of_mem _ (List.mem_append_right _ (inlX0 w h))
  have iX6 : ∀ w ∈ wsX60, w ∈ wsX6_judge := fun w h => List.mem_cons_of_mem _ (List.mem_append_right _ (inlX6 w h))
  rw [pX6_judge]
  refine g_aload_n C 0 0 dX6_judge_0 rfl ?_
  refine gfX_X6_court C 1 iX6 (List.mem_cons_of_mem _ (List.mem_append_right _ wgL_1_15.1)) dX6_judge_1 ?_
  refine g_iload_n C 4 1 dX6_judge_4 rfl ?_
  refine g_callVi (st := []) (As := [.int p1]) C EX_ok EX_vm 5 1 1 (tX0_hasJudge F 0 (by decide) p1 u) rfl gX6_judge_X0_hasJudge rfl rfl rfl (by decide +kernel) ⟨Nat.le_of_ble_eq_true rfl, Nat.le_of_ble_eq_true rfl⟩ (wX_X0 ad cI cZ _ 0 (by decide)) rfl rfl (Nat.le_of_ble_eq_true rfl) dX6_judge_5 (fun r2 u1 => ?_)
  refine g_if_eq C 8 21 dX6_judge_8 (by decide) ?_ ?_
  · skip
    refine g_iconst C 21 (-1) dX6_judge_21 rfl ?_
    exact g_iret C 22 dX6_judge_22
  · skip
    refine g_iload_n C 11 2 dX6_judge_11 rfl ?_
    refine g_i2l C 12 dX6_judge_12 ?_
    refine g_iconst C 13 0 dX6_judge_13 rfl ?_
    refine g_iconst C 14 1 dX6_judge_14 rfl ?_
    refine g_callSi (st := []) (As := [.long (Int32.toInt64 p2), .int 0, .int 1]) C EX_ok EX_vm 15 3 (tX6_isIn F (Int32.toInt64 p2) 0 1 u1) rfl gX6_judge_X6_isIn rfl rfl rfl (by decide +kernel) ⟨Nat.le_of_ble_eq_true rfl, Nat.le_of_ble_eq_true rfl⟩ rfl (Nat.le_of_ble_eq_true rfl) dX6_judge_15 (fun r4 u3 => ?_)
    refine g_if_ne C 18 23 dX6_judge_18 (by decide) ?_ ?_
    · skip
      refine g_iload_n C 23 2 dX6_judge_23 rfl ?_
      refine g_if_ne C 24 39 dX6_judge_24 (by decide) ?_ ?_
      · skip
        refine g_aload_n C 39 0 dX6_judge_39 rfl ?_
        refine gfX_X6_court C 40 iX6 (List.mem_cons_of_mem _ (List.mem_append_right _ wgL_1_15.1)) dX6_judge_40 ?_
        refine gfX_X0_slow 0 (by decide) C 43 iX0 (List.mem_cons_of_mem _ (List.mem_append_right _ wgL_21_0.1)) dX6_judge_43 ?_
        refine g_iload_n C 46 1 dX6_judge_46 rfl ?_
        refine g_iald C 47 (10 + 8) 0 (wX_arr 8 (by decide)) rfl dX6_judge_47 ?_
        exact g_iret C 48 dX6_judge_48
      · skip
        refine g_aload_n C 27 0 dX6_judge_27 rfl ?_
        refine gfX_X6_court C 28 iX6 (List.mem_cons_of_mem _ (List.mem_append_right _ wgL_1_15.1)) dX6_judge_28 ?_
        refine gfX_X0_habit 0 (by decide) C 31 iX0 (List.mem_cons_of_mem _ (List.mem_append_right _ wgL_20_23.1)) dX6_judge_31 ?_
        refine g_iload_n C 34 1 dX6_judge_34 rfl ?_
        refine g_iald C 35 (10 + 7) 0 (wX_arr 7 (by decide)) rfl dX6_judge_35 ?_
        refine g_goto C 36 48 dX6_judge_36 (by decide) ?_
        exact g_iret C 48 dX6_judge_48
    · skip
      refine g_iconst C 21 (-1) dX6_judge_21 rfl ?_
      exact g_iret C 22 dX6_judge_22
def pX6_draught (F : Nat) (p1 : Int32) (p2 : Int32) (u : St) : Option (Int32 × St) :=
  bd (pX6_isIn F (Int32.toInt64 p1) 0 ((u.1 2) - 1) u) (fun (r2 : Int32) (u1 : St) => if r2 = 0 then some ((-1), u1) else bd (pX6_isIn F (Int32.toInt64 p2) 0 1 u1) (fun (r4 : Int32) (u3 : St) => if r4 = 0 then some ((-1), u3) else if p2 = 0 then gd (inb p1 4) (some ((u3.2 9 (Int32.toNatClampNeg p1)), u3)) else gd (inb p1 4) (some ((u3.2 10 (Int32.toNatClampNeg p1)), u3))))
set_option maxRecDepth 100000 in
set_option maxHeartbeats 4000000 in
theorem tX6_draught {l : Launch} {D : va_G} {cI cZ : ClassId} {ad : Nat → Nat} {tBURNS tFLAME_BOUNDS : Nat} {tS : Option Nat} {adK adV : Nat → Nat} (F : Nat) (p1 : Int32) (p2 : Int32) (u : St) : CtI l D [(cI, .int), (cZ, .boolean)] (wX ad cI cZ) (EX tBURNS tFLAME_BOUNDS tS adK adV) yX6_draught wsX6_draught ({ frames := 1, cells := 0, slots := 0, locals := 23 } : Room) [.ref (ad 0), .int p1, .int p2] u (pX6_draught F p1 p2 u) := by
  refine ctI_of (own := RX6) (cc := cX6_draught) (n := 3) (ret := (some .int)) (by decide) rfl rfl (Nat.le_of_ble_eq_true rfl) (lv := [(0, .ref (ad 0)), (1, .int p1), (2, .int p2)]) rfl (fun C => ?_)
  have iX0 : ∀ w ∈ wsX00, w ∈ wsX6_draught := fun w h => List.mem_cons_of_mem _ (List.mem_append_right _ (inlX0 w h))
  have iX6 : ∀ w ∈ wsX60, w ∈ wsX6_draught := fun w h => List.mem_cons_of_mem _ (List.mem_append_right _ (inlX6 w h))
  rw [pX6_draught]
  refine g_iload_n C 0 1 dX6_draught_0 rfl ?_
  refine g_i2l C 1 dX6_draught_1 ?_
  refine g_iconst C 2 0 dX6_draught_2 rfl ?_
  refine g_aload_n C 3 0 dX6_draught_3 rfl ?_
  refine gfX_X6_court C 4 iX6 (List.mem_cons_of_mem _ (List.mem_append_right _ wgL_1_15.1)) dX6_draught_4 ?_
  refine gfX_X0_draughts 0 (by decide) C 7 iX0 (List.mem_cons_of_mem _ (List.mem_append_right _ wgL_18_7.1)) dX6_draught_7 ?_
  refine g_iconst C 10 1 dX6_draught_10 rfl ?_
  refine g_isub C 11 dX6_draught_11 ?_
  refine g_callSi (st := []) (As := [.long (Int32.toInt64 p1), .int 0, .int ((u.1 2) - 1)]) C EX_ok EX_vm 12 3 (tX6_isIn F (Int32.toInt64 p1) 0 ((u.1 2) - 1) u) rfl gX6_draught_X6_isIn rfl rfl rfl (by decide +kernel) ⟨Nat.le_of_ble_eq_true rfl, Nat.le_of_ble_eq_true rfl⟩ rfl (Nat.le_of_ble_eq_true rfl) dX6_draught_12 (fun r2 u1 => ?_)
  refine g_if_eq C 15 28 dX6_draught_15 (by decide) ?_ ?_
  · skip
    refine g_iconst C 28 (-1) dX6_draught_28 rfl ?_
    exact g_iret C 29 dX6_draught_29
  · skip
    refine g_iload_n C 18 2 dX6_draught_18 rfl ?_
    refine g_i2l C 19 dX6_draught_19 ?_
    refine g_iconst C 20 0 dX6_draught_20 rfl ?_
    refine g_iconst C 21 1 dX6_draught_21 rfl ?_
    refine g_callSi (st := []) (As := [.long (Int32.toInt64 p2), .int 0, .int 1]) C EX_ok EX_vm 22 3 (tX6_isIn F (Int32.toInt64 p2) 0 1 u1) rfl gX6_draught_X6_isIn rfl rfl rfl (by decide +kernel) ⟨Nat.le_of_ble_eq_true rfl, Nat.le_of_ble_eq_true rfl⟩ rfl (Nat.le_of_ble_eq_true rfl) dX6_draught_22 (fun r4 u3 => ?_)
    refine g_if_ne C 25 30 dX6_draught_25 (by decide) ?_ ?_
    · skip
      refine g_iload_n C 30 2 dX6_draught_30 rfl ?_
      refine g_if_ne C 31 46 dX6_draught_31 (by decide) ?_ ?_
      · skip
        refine g_aload_n C 46 0 dX6_draught_46 rfl ?_
        refine gfX_X6_court C 47 iX6 (List.mem_cons_of_mem _ (List.mem_append_right _ wgL_1_15.1)) dX6_draught_47 ?_
        refine gfX_X0_strength 0 (by decide) C 50 iX0 (List.mem_cons_of_mem _ (List.mem_append_right _ wgL_21_15.1)) dX6_draught_50 ?_
        refine g_iload_n C 53 1 dX6_draught_53 rfl ?_
        refine g_iald C 54 (10 + 10) 0 (wX_arr 10 (by decide)) rfl dX6_draught_54 ?_
        exact g_iret C 55 dX6_draught_55
      · skip
        refine g_aload_n C 34 0 dX6_draught_34 rfl ?_
        refine gfX_X6_court C 35 iX6 (List.mem_cons_of_mem _ (List.mem_append_right _ wgL_1_15.1)) dX6_draught_35 ?_
        refine gfX_X0_minute 0 (by decide) C 38 iX0 (List.mem_cons_of_mem _ (List.mem_append_right _ wgL_21_14.1)) dX6_draught_38 ?_
        refine g_iload_n C 41 1 dX6_draught_41 rfl ?_
        refine g_iald C 42 (10 + 9) 0 (wX_arr 9 (by decide)) rfl dX6_draught_42 ?_
        refine g_goto C 43 55 dX6_draught_43 (by decide) ?_
        exact g_iret C 55 dX6_draught_55
    · skip
      refine g_iconst C 28 (-1) dX6_draught_28 rfl ?_
      exact g_iret C 29 dX6_draught_29
def pX6_docket (F : Nat) (p1 : Int32) (p2 : Int32) (u : St) : Option (Int32 × St) :=
  bd (pX6_isIn F (Int32.toInt64 p1) 0 ((u.1 3) - 1) u) (fun (r2 : Int32) (u1 : St) => if r2 = 0 then some ((-1), u1) else bd (pX6_isIn F (Int32.toInt64 p2) 0 1 u1) (fun (r4 : Int32) (u3 : St) => if r4 = 0 then some ((-1), u3) else if p2 = 0 then gd (inb p1 6) (some ((u3.2 11 (Int32.toNatClampNeg p1)), u3)) else gd (inb p1 6) (some ((u3.2 12 (Int32.toNatClampNeg p1)), u3))))
set_option maxRecDepth 100000 in
set_option maxHeartbeats 4000000 in
theorem tX6_docket {l : Launch} {D : va_G} {cI cZ : ClassId} {ad : Nat → Nat} {tBURNS tFLAME_BOUNDS : Nat} {tS : Option Nat} {adK adV : Nat → Nat} (F : Nat) (p1 : Int32) (p2 : Int32) (u : St) : CtI l D [(cI, .int), (cZ, .boolean)] (wX ad cI cZ) (EX tBURNS tFLAME_BOUNDS tS adK adV) yX6_docket wsX6_docket ({ frames := 1, cells := 0, slots := 0, locals := 23 } : Room) [.ref (ad 0), .int p1, .int p2] u (pX6_docket F p1 p2 u) := by
  refine ctI_of (own := RX6) (cc := cX6_docket) (n := 3) (ret := (some .int)) (by decide) rfl rfl (Nat.le_of_ble_eq_true rfl) (lv := [(0, .ref (ad 0)), (1, .int p1), (2, .int p2)]) rfl (fun C => ?_)
  have iX0 : ∀ w ∈ wsX00, w ∈ wsX6_docket := fun w h => List.mem_cons_of_mem _ (List.mem_append_right _ (inlX0 w h))
  have iX6 : ∀ w ∈ wsX60, w ∈ wsX6_docket := fun w h => List.mem_cons_of_mem _ (List.mem_append_right _ (inlX6 w h))
  rw [pX6_docket]
  refine g_iload_n C 0 1 dX6_docket_0 rfl ?_
  refine g_i2l C 1 dX6_docket_1 ?_
  refine g_iconst C 2 0 dX6_docket_2 rfl ?_
  refine g_aload_n C 3 0 dX6_docket_3 rfl ?_
  refine gfX_X6_court C 4 iX6 (List.mem_cons_of_mem _ (List.mem_append_right _ wgL_1_15.1)) dX6_docket_4 ?_
  refine gfX_X0_hearings 0 (by decide) C 7 iX0 (List.mem_cons_of_mem _ (List.mem_append_right _ wgL_18_8.1)) dX6_docket_7 ?_
  refine g_iconst C 10 1 dX6_docket_10 rfl ?_
  refine g_isub C 11 dX6_docket_11 ?_
  refine g_callSi (st := []) (As := [.long (Int32.toInt64 p1), .int 0, .int ((u.1 3) - 1)]) C EX_ok EX_vm 12 3 (tX6_isIn F (Int32.toInt64 p1) 0 ((u.1 3) - 1) u) rfl gX6_docket_X6_isIn rfl rfl rfl (by decide +kernel) ⟨Nat.le_of_ble_eq_true rfl, Nat.le_of_ble_eq_true rfl⟩ rfl (Nat.le_of_ble_eq_true rfl) dX6_docket_12 (fun r2 u1 => ?_)
  refine g_if_eq C 15 28 dX6_docket_15 (by decide) ?_ ?_
  · skip
    refine g_iconst C 28 (-1) dX6_docket_28 rfl ?_
    exact g_iret C 29 dX6_docket_29
  · skip
    refine g_iload_n C 18 2 dX6_docket_18 rfl ?_
    refine g_i2l C 19 dX6_docket_19 ?_
    refine g_iconst C 20 0 dX6_docket_20 rfl ?_
    refine g_iconst C 21 1 dX6_docket_21 rfl ?_
    refine g_callSi (st := []) (As := [.long (Int32.toInt64 p2), .int 0, .int 1]) C EX_ok EX_vm 22 3 (tX6_isIn F (Int32.toInt64 p2) 0 1 u1) rfl gX6_docket_X6_isIn rfl rfl rfl (by decide +kernel) ⟨Nat.le_of_ble_eq_true rfl, Nat.le_of_ble_eq_true rfl⟩ rfl (Nat.le_of_ble_eq_true rfl) dX6_docket_22 (fun r4 u3 => ?_)
    refine g_if_ne C 25 30 dX6_docket_25 (by decide) ?_ ?_
    · skip
      refine g_iload_n C 30 2 dX6_docket_30 rfl ?_
      refine g_if_ne C 31 46 dX6_docket_31 (by decide) ?_ ?_
      · skip
        refine g_aload_n C 46 0 dX6_docket_46 rfl ?_
        refine gfX_X6_court C 47 iX6 (List.mem_cons_of_mem _ (List.mem_append_right _ wgL_1_15.1)) dX6_docket_47 ?_
        refine gfX_X0_docketJudge 0 (by decide) C 50 iX0 (List.mem_cons_of_mem _ (List.mem_append_right _ wgL_22_1.1)) dX6_docket_50 ?_
        refine g_iload_n C 53 1 dX6_docket_53 rfl ?_
        refine g_iald C 54 (10 + 12) 0 (wX_arr 12 (by decide)) rfl dX6_docket_54 ?_
        exact g_iret C 55 dX6_docket_55
      · skip
        refine g_aload_n C 34 0 dX6_docket_34 rfl ?_
        refine gfX_X6_court C 35 iX6 (List.mem_cons_of_mem _ (List.mem_append_right _ wgL_1_15.1)) dX6_docket_35 ?_
        refine gfX_X0_docketCase 0 (by decide) C 38 iX0 (List.mem_cons_of_mem _ (List.mem_append_right _ wgL_22_0.1)) dX6_docket_38 ?_
        refine g_iload_n C 41 1 dX6_docket_41 rfl ?_
        refine g_iald C 42 (10 + 11) 0 (wX_arr 11 (by decide)) rfl dX6_docket_42 ?_
        refine g_goto C 43 55 dX6_docket_43 (by decide) ?_
        exact g_iret C 55 dX6_docket_55
    · skip
      refine g_iconst C 28 (-1) dX6_docket_28 rfl ?_
      exact g_iret C 29 dX6_docket_29
def pX6_exchange (F : Nat) (p1 : Nat) (p2 : Int32) (p3 : Int32) (u : St) : Option (Int32 × St) :=
  gd (inb p2 (lenX p1)) (vl (u.2 p1 (Int32.toNatClampNeg p2)) (fun v1 => gd (inb p2 (lenX p1)) (vl (sta u p1 p2 p3) (fun (u2 : St) => some (v1, u2)))))
set_option maxRecDepth 100000 in
set_option maxHeartbeats 4000000 in
theorem tX6_exchange {l : Launch} {D : va_G} {cI cZ : ClassId} {ad : Nat → Nat} {tBURNS tFLAME_BOUNDS : Nat} {tS : Option Nat} {adK adV : Nat → Nat} (F : Nat) (p1 : Nat) (hp1 : p1 < 66) (p2 : Int32) (p3 : Int32) (u : St) : CtI l D [(cI, .int), (cZ, .boolean)] (wX ad cI cZ) (EX tBURNS tFLAME_BOUNDS tS adK adV) yX6_exchange wsX6_exchange ({ frames := 0, cells := 0, slots := 0, locals := 0 } : Room) [.ref (ad (10 + p1)), .int p2, .int p3] u (pX6_exchange F p1 p2 p3 u) := by
  refine ctI_of (own := RX6) (cc := cX6_exchange) (n := 4) (ret := (some .int)) (by decide) rfl rfl (Nat.le_of_ble_eq_true rfl) (lv := [(0, .ref (ad (10 + p1))), (1, .int p2), (2, .int p3)]) rfl (fun C => ?_)
  rw [pX6_exchange]
  refine g_aload_n C 0 0 dX6_exchange_0 rfl ?_
  refine g_iload_n C 1 1 dX6_exchange_1 rfl ?_
  refine g_iald C 2 (10 + p1) 0 (wX_arr p1 hp1) rfl dX6_exchange_2 ?_
  refine g_istore_nV C 3 (fun v1 => [(3, .int v1), (0, .ref (ad (10 + p1))), (1, .int p2), (2, .int p3)]) dX6_exchange_3 (by decide) (fun _ => rfl) (fun v1 => ?_)
  refine g_aload_n C 4 1 dX6_exchange_4 rfl ?_
  refine g_iload_n C 5 2 dX6_exchange_5 rfl ?_
  refine g_iload_n C 6 3 dX6_exchange_6 rfl ?_
  refine g_iast C 7 (10 + p1) 0 p1 (wX_arr p1 hp1) (wX_aset p1 hp1) rfl dX6_exchange_7 (fun u2 => ?_)
  refine g_iload_n C 8 0 dX6_exchange_8 rfl ?_
  exact g_iret C 9 dX6_exchange_9
def pX6_trim (F : Nat) (p1 : Int32) (p2 : Int32) (p3 : Int32) (p4 : Int32) (u : St) : Option (Int32 × St) :=
  bd (pX6_isFlame F p1 p2 u) (fun (r2 : Int32) (u1 : St) => if r2 = 0 then some ((-1), u1) else bd (pX6_isIn F (Int32.toInt64 p3) 0 2 u1) (fun (r4 : Int32) (u3 : St) => if r4 = 0 then some ((-1), u3) else gd (inb p3 3) (bd (pX6_isIn F (Int32.toInt64 p4) 0 (tabFLAME_BOUNDS (Int32.toNatClampNeg p3)) u3) (fun (r6 : Int32) (u5 : St) => if r6 = 0 then some ((-1), u5) else gd (inb p1 4) (if (u5.2 3 (Int32.toNatClampNeg p1)) = 0 then jn (fun (a7 : Nat) (u8 : St) => bd (pX6_exchange F a7 ((2 * p1) + p2) p4 u8) (fun (r10 : Int32) (u9 : St) => some (r10, u9))) (fun (J87 : Nat → St → Option (Int32 × St)) => if p3 = 0 then (J87 0 u5) else if p3 = 1 then (J87 1 u5) else (J87 2 u5)) else some ((-2), u5))))))
set_option maxRecDepth 100000 in
set_option maxHeartbeats 4000000 in
theorem tX6_trim {l : Launch} {D : va_G} {cI cZ : ClassId} {ad : Nat → Nat} {tBURNS tFLAME_BOUNDS : Nat} {tS : Option Nat} {adK adV : Nat → Nat} (F : Nat) (p1 : Int32) (p2 : Int32) (p3 : Int32) (p4 : Int32) (u : St) : CtI l D [(cI, .int), (cZ, .boolean)] (wX ad cI cZ) (EX tBURNS tFLAME_BOUNDS tS adK adV) yX6_trim wsX6_trim ({ frames := 3, cells := 0, slots := 0, locals := 67 } : Room) [.ref (ad 0), .int p1, .int p2, .int p3, .int p4] u (pX6_trim F p1 p2 p3 p4 u) := by
  refine ctI_of (own := RX6) (cc := cX6_trim) (n := 5) (ret := (some .int)) (by decide) rfl rfl (Nat.le_of_ble_eq_true rfl) (lv := [(0, .ref (ad 0)), (1, .int p1), (2, .int p2), (3, .int p3), (4, .int p4)]) rfl (fun C => ?_)
  have iX0 : ∀ w ∈ wsX00, w ∈ wsX6_trim := fun w h => List.mem_cons_of_mem _ (List.mem_append_right _ (inlX0 w h))
  have iX6 : ∀ w ∈ wsX60, w ∈ wsX6_trim := fun w h => List.mem_cons_of_mem _ (List.mem_append_right _ (inlX6 w h))
  rw [pX6_trim]
  refine g_aload_n C 0 0 dX6_trim_0 rfl ?_
  refine g_iload_n C 1 1 dX6_trim_1 rfl ?_
  refine g_iload_n C 2 2 dX6_trim_2 rfl ?_
  refine g_callVi (st := []) (As := [.int p1, .int p2]) C EX_ok EX_vm 3 0 2 (tX6_isFlame F p1 p2 u) rfl gX6_trim_X6_isFlame rfl rfl rfl (by decide +kernel) ⟨Nat.le_of_ble_eq_true rfl, Nat.le_of_ble_eq_true rfl⟩ rfl rfl rfl (Nat.le_of_ble_eq_true rfl) dX6_trim_3 (fun r2 u1 => ?_)
  refine g_if_eq C 6 34 dX6_trim_6 (by decide) ?_ ?_
  · skip
    refine g_iconst C 34 (-1) dX6_trim_34 rfl ?_
    exact g_iret C 35 dX6_trim_35
  · skip
    refine g_iload_n C 9 3 dX6_trim_9 rfl ?_
    refine g_i2l C 10 dX6_trim_10 ?_
    refine g_iconst C 11 0 dX6_trim_11 rfl ?_
    refine g_iconst C 12 2 dX6_trim_12 rfl ?_
    refine g_callSi (st := []) (As := [.long (Int32.toInt64 p3), .int 0, .int 2]) C EX_ok EX_vm 13 3 (tX6_isIn F (Int32.toInt64 p3) 0 2 u1) rfl gX6_trim_X6_isIn rfl rfl rfl (by decide +kernel) ⟨Nat.le_of_ble_eq_true rfl, Nat.le_of_ble_eq_true rfl⟩ rfl (Nat.le_of_ble_eq_true rfl) dX6_trim_13 (fun r4 u3 => ?_)
    refine g_if_eq C 16 34 dX6_trim_16 (by decide) ?_ ?_
    · skip
      refine g_iconst C 34 (-1) dX6_trim_34 rfl ?_
      exact g_iret C 35 dX6_trim_35
    · skip
      refine g_iload C 19 4 dX6_trim_19 rfl ?_
      refine g_i2l C 21 dX6_trim_21 ?_
      refine g_iconst C 22 0 dX6_trim_22 rfl ?_
      refine g_gets C 23 (EX_zFLAME_BOUNDS C.2.2.2.2.2.2.2.2.1) (by decide +kernel) dX6_trim_23 ?_
      refine g_iload_n C 26 3 dX6_trim_26 rfl ?_
      refine g_ti C 27 (EX_tFLAME_BOUNDS C.2.2.2.2.2.2.2.2.1) dX6_trim_27 ?_
      refine g_callSi (st := []) (As := [.long (Int32.toInt64 p4), .int 0, .int (tabFLAME_BOUNDS (Int32.toNatClampNeg p3))]) C EX_ok EX_vm 28 3 (tX6_isIn F (Int32.toInt64 p4) 0 (tabFLAME_BOUNDS (Int32.toNatClampNeg p3)) u3) rfl gX6_trim_X6_isIn rfl rfl rfl (by decide +kernel) ⟨Nat.le_of_ble_eq_true rfl, Nat.le_of_ble_eq_true rfl⟩ rfl (Nat.le_of_ble_eq_true rfl) dX6_trim_28 (fun r6 u5 => ?_)
      refine g_if_ne C 31 36 dX6_trim_31 (by decide) ?_ ?_
      · skip
        refine g_aload_n C 36 0 dX6_trim_36 rfl ?_
        refine gfX_X6_court C 37 iX6 (List.mem_cons_of_mem _ (List.mem_append_right _ wgL_1_15.1)) dX6_trim_37 ?_
        refine gfX_X0_verdict 0 (by decide) C 40 iX0 (List.mem_cons_of_mem _ (List.mem_append_right _ wgL_18_9.1)) dX6_trim_40 ?_
        refine g_iload_n C 43 1 dX6_trim_43 rfl ?_
        refine g_iald C 44 (10 + 3) 0 (wX_arr 3 (by decide)) rfl dX6_trim_44 ?_
        refine g_if_eq C 45 51 dX6_trim_45 (by decide) ?_ ?_
        · skip
          refine g_iload_n C 51 3 dX6_trim_51 rfl ?_
          refine g_jnN 87 66 (fun (a7 : Nat) => [(1, .int p1), (2, .int p2), (4, .int p4)]) (fun (a7 : Nat) => [.ref (ad (10 + a7))]) (fun a7 ha7 u8 => ?_) (fun J87 hJ87 => ?_)
          · skip
            refine g_iconst C 87 2 dX6_trim_87 rfl ?_
            refine g_iload_n C 88 0 dX6_trim_88 rfl ?_
            refine g_imul C 89 dX6_trim_89 ?_
            refine g_iload_n C 90 1 dX6_trim_90 rfl ?_
            refine g_iadd C 91 dX6_trim_91 ?_
            refine g_iload C 92 2 dX6_trim_92 rfl ?_
            refine g_callSi (st := []) (As := [.ref (ad (10 + a7)), .int ((2 * p1) + p2), .int p4]) C EX_ok EX_vm 94 3 (tX6_exchange F a7 (by omega) ((2 * p1) + p2) p4 u8) rfl gX6_trim_X6_exchange rfl rfl rfl (by decide +kernel) ⟨Nat.le_of_ble_eq_true rfl, Nat.le_of_ble_eq_true rfl⟩ rfl (Nat.le_of_ble_eq_true rfl) dX6_trim_94 (fun r10 u9 => ?_)
            exact g_iret C 97 dX6_trim_97
          · skip
            refine g_if_ne C 52 65 dX6_trim_52 (by decide) ?_ ?_
            · skip
              refine g_iload_n C 65 3 dX6_trim_65 rfl ?_
              refine g_iconst C 66 1 dX6_trim_66 rfl ?_
              refine g_icmp_ne C 67 80 dX6_trim_67 (by decide) ?_ ?_
              · skip
                refine g_aload_n C 80 0 dX6_trim_80 rfl ?_
                refine gfX_X6_court C 81 iX6 (List.mem_cons_of_mem _ (List.mem_append_right _ wgL_1_15.1)) dX6_trim_81 ?_
                refine gfX_X0_guard 0 (by decide) C 84 iX0 (List.mem_cons_of_mem _ (List.mem_append_right _ wgL_19_11.1)) dX6_trim_84 ?_
                exact g_sub _ [1, 2, 4] rfl (hJ87 2 (by decide) u5)
              · skip
                refine g_aload_n C 70 0 dX6_trim_70 rfl ?_
                refine gfX_X6_court C 71 iX6 (List.mem_cons_of_mem _ (List.mem_append_right _ wgL_1_15.1)) dX6_trim_71 ?_
                refine gfX_X0_length 0 (by decide) C 74 iX0 (List.mem_cons_of_mem _ (List.mem_append_right _ wgL_18_10.1)) dX6_trim_74 ?_
                refine g_goto C 77 87 dX6_trim_77 (by decide) ?_
                exact g_sub _ [1, 2, 4] rfl (hJ87 1 (by decide) u5)
            · skip
              refine g_aload_n C 55 0 dX6_trim_55 rfl ?_
              refine gfX_X6_court C 56 iX6 (List.mem_cons_of_mem _ (List.mem_append_right _ wgL_1_15.1)) dX6_trim_56 ?_
              refine gfX_X0_kind 0 (by decide) C 59 iX0 (List.mem_cons_of_mem _ (List.mem_append_right _ wgL_19_10.1)) dX6_trim_59 ?_
              refine g_goto C 62 87 dX6_trim_62 (by decide) ?_
              exact g_sub _ [1, 2, 4] rfl (hJ87 0 (by decide) u5)
        · skip
          refine g_bipush C 48 (-2) dX6_trim_48 rfl ?_
          exact g_iret C 50 dX6_trim_50
      · skip
        refine g_iconst C 34 (-1) dX6_trim_34 rfl ?_
        exact g_iret C 35 dX6_trim_35
def pX6_train (F : Nat) (p1 : Int32) (p2 : Int32) (p3 : Int32) (u : St) : Option (Int32 × St) :=
  bd (pX0_hasJudge F 0 p1 u) (fun (r2 : Int32) (u1 : St) => if r2 = 0 then some ((-1), u1) else bd (pX6_isIn F (Int32.toInt64 p2) 0 1 u1) (fun (r4 : Int32) (u3 : St) => if r4 = 0 then some ((-1), u3) else if p2 = 0 then bd (pX6_isIn F (Int32.toInt64 p3) 0 3 u3) (fun (r10 : Int32) (u9 : St) => if r10 = 0 then some ((-1), u9) else bd (pX6_exchange F 7 p1 p3 u9) (fun (r12 : Int32) (u11 : St) => some (r12, u11))) else bd (pX6_isIn F (Int32.toInt64 p3) 1 9 u3) (fun (r6 : Int32) (u5 : St) => if r6 = 0 then some ((-1), u5) else bd (pX6_exchange F 8 p1 p3 u5) (fun (r8 : Int32) (u7 : St) => some (r8, u7)))))
set_option maxRecDepth 100000 in
set_option maxHeartbeats 4000000 in
theorem tX6_train {l : Launch} {D : va_G} {cI cZ : ClassId} {ad : Nat → Nat} {tBURNS tFLAME_BOUNDS : Nat} {tS : Option Nat} {adK adV : Nat → Nat} (F : Nat) (p1 : Int32) (p2 : Int32) (p3 : Int32) (u : St) : CtI l D [(cI, .int), (cZ, .boolean)] (wX ad cI cZ) (EX tBURNS tFLAME_BOUNDS tS adK adV) yX6_train wsX6_train ({ frames := 2, cells := 0, slots := 0, locals := 44 } : Room) [.ref (ad 0), .int p1, .int p2, .int p3] u (pX6_train F p1 p2 p3 u) := by
  refine ctI_of (own := RX6) (cc := cX6_train) (n := 4) (ret := (some .int)) (by decide) rfl rfl (Nat.le_of_ble_eq_true rfl) (lv := [(0, .ref (ad 0)), (1, .int p1), (2, .int p2), (3, .int p3)]) rfl (fun C => ?_)
  have iX0 : ∀ w ∈ wsX00, w ∈ wsX6_train := fun w h => List.mem_cons_of_mem _ (List.mem_append_right _ (inlX0 w h))
  have iX6 : ∀ w ∈ wsX60, w ∈ wsX6_train := fun w h => List.mem_cons_of_mem _ (List.mem_append_right _ (inlX6 w h))
  rw [pX6_train]
  refine g_aload_n C 0 0 dX6_train_0 rfl ?_
  refine gfX_X6_court C 1 iX6 (List.mem_cons_of_mem _ (List.mem_append_right _ wgL_1_15.1)) dX6_train_1 ?_
  refine g_iload_n C 4 1 dX6_train_4 rfl ?_
  refine g_callVi (st := []) (As := [.int p1]) C EX_ok EX_vm 5 1 1 (tX0_hasJudge F 0 (by decide) p1 u) rfl gX6_train_X0_hasJudge rfl rfl rfl (by decide +kernel) ⟨Nat.le_of_ble_eq_true rfl, Nat.le_of_ble_eq_true rfl⟩ (wX_X0 ad cI cZ _ 0 (by decide)) rfl rfl (Nat.le_of_ble_eq_true rfl) dX6_train_5 (fun r2 u1 => ?_)
  refine g_if_eq C 8 21 dX6_train_8 (by decide) ?_ ?_
  · skip
    refine g_iconst C 21 (-1) dX6_train_21 rfl ?_
    exact g_iret C 22 dX6_train_22
  · skip
    refine g_iload_n C 11 2 dX6_train_11 rfl ?_
    refine g_i2l C 12 dX6_train_12 ?_
    refine g_iconst C 13 0 dX6_train_13 rfl ?_
    refine g_iconst C 14 1 dX6_train_14 rfl ?_
    refine g_callSi (st := []) (As := [.long (Int32.toInt64 p2), .int 0, .int 1]) C EX_ok EX_vm 15 3 (tX6_isIn F (Int32.toInt64 p2) 0 1 u1) rfl gX6_train_X6_isIn rfl rfl rfl (by decide +kernel) ⟨Nat.le_of_ble_eq_true rfl, Nat.le_of_ble_eq_true rfl⟩ rfl (Nat.le_of_ble_eq_true rfl) dX6_train_15 (fun r4 u3 => ?_)
    refine g_if_ne C 18 23 dX6_train_18 (by decide) ?_ ?_
    · skip
      refine g_iload_n C 23 2 dX6_train_23 rfl ?_
      refine g_if_ne C 24 54 dX6_train_24 (by decide) ?_ ?_
      · skip
        refine g_iload_n C 54 3 dX6_train_54 rfl ?_
        refine g_i2l C 55 dX6_train_55 ?_
        refine g_iconst C 56 1 dX6_train_56 rfl ?_
        refine g_bipush C 57 9 dX6_train_57 rfl ?_
        refine g_callSi (st := []) (As := [.long (Int32.toInt64 p3), .int 1, .int 9]) C EX_ok EX_vm 59 3 (tX6_isIn F (Int32.toInt64 p3) 1 9 u3) rfl gX6_train_X6_isIn rfl rfl rfl (by decide +kernel) ⟨Nat.le_of_ble_eq_true rfl, Nat.le_of_ble_eq_true rfl⟩ rfl (Nat.le_of_ble_eq_true rfl) dX6_train_59 (fun r6 u5 => ?_)
        refine g_if_eq C 62 80 dX6_train_62 (by decide) ?_ ?_
        · skip
          refine g_iconst C 80 (-1) dX6_train_80 rfl ?_
          exact g_iret C 81 dX6_train_81
        · skip
          refine g_aload_n C 65 0 dX6_train_65 rfl ?_
          refine gfX_X6_court C 66 iX6 (List.mem_cons_of_mem _ (List.mem_append_right _ wgL_1_15.1)) dX6_train_66 ?_
          refine gfX_X0_slow 0 (by decide) C 69 iX0 (List.mem_cons_of_mem _ (List.mem_append_right _ wgL_21_0.1)) dX6_train_69 ?_
          refine g_iload_n C 72 1 dX6_train_72 rfl ?_
          refine g_iload_n C 73 3 dX6_train_73 rfl ?_
          refine g_callSi (st := []) (As := [.ref (ad (10 + 8)), .int p1, .int p3]) C EX_ok EX_vm 74 3 (tX6_exchange F 8 (by decide) p1 p3 u5) rfl gX6_train_X6_exchange rfl rfl rfl (by decide +kernel) ⟨Nat.le_of_ble_eq_true rfl, Nat.le_of_ble_eq_true rfl⟩ rfl (Nat.le_of_ble_eq_true rfl) dX6_train_74 (fun r8 u7 => ?_)
          refine g_goto C 77 81 dX6_train_77 (by decide) ?_
          exact g_iret C 81 dX6_train_81
      · skip
        refine g_iload_n C 27 3 dX6_train_27 rfl ?_
        refine g_i2l C 28 dX6_train_28 ?_
        refine g_iconst C 29 0 dX6_train_29 rfl ?_
        refine g_iconst C 30 3 dX6_train_30 rfl ?_
        refine g_callSi (st := []) (As := [.long (Int32.toInt64 p3), .int 0, .int 3]) C EX_ok EX_vm 31 3 (tX6_isIn F (Int32.toInt64 p3) 0 3 u3) rfl gX6_train_X6_isIn rfl rfl rfl (by decide +kernel) ⟨Nat.le_of_ble_eq_true rfl, Nat.le_of_ble_eq_true rfl⟩ rfl (Nat.le_of_ble_eq_true rfl) dX6_train_31 (fun r10 u9 => ?_)
        refine g_if_eq C 34 52 dX6_train_34 (by decide) ?_ ?_
        · skip
          refine g_iconst C 52 (-1) dX6_train_52 rfl ?_
          exact g_iret C 53 dX6_train_53
        · skip
          refine g_aload_n C 37 0 dX6_train_37 rfl ?_
          refine gfX_X6_court C 38 iX6 (List.mem_cons_of_mem _ (List.mem_append_right _ wgL_1_15.1)) dX6_train_38 ?_
          refine gfX_X0_habit 0 (by decide) C 41 iX0 (List.mem_cons_of_mem _ (List.mem_append_right _ wgL_20_23.1)) dX6_train_41 ?_
          refine g_iload_n C 44 1 dX6_train_44 rfl ?_
          refine g_iload_n C 45 3 dX6_train_45 rfl ?_
          refine g_callSi (st := []) (As := [.ref (ad (10 + 7)), .int p1, .int p3]) C EX_ok EX_vm 46 3 (tX6_exchange F 7 (by decide) p1 p3 u9) rfl gX6_train_X6_exchange rfl rfl rfl (by decide +kernel) ⟨Nat.le_of_ble_eq_true rfl, Nat.le_of_ble_eq_true rfl⟩ rfl (Nat.le_of_ble_eq_true rfl) dX6_train_46 (fun r12 u11 => ?_)
          refine g_goto C 49 53 dX6_train_49 (by decide) ?_
          exact g_iret C 53 dX6_train_53
    · skip
      refine g_iconst C 21 (-1) dX6_train_21 rfl ?_
      exact g_iret C 22 dX6_train_22
def pX6_blow (F : Nat) (p1 : Int32) (p2 : Int32) (u : St) : Option (Int32 × St) :=
  bd (pX6_isIn F (Int32.toInt64 p1) 0 20 u) (fun (r2 : Int32) (u1 : St) => if r2 = 0 then some ((-1), u1) else bd (pX6_isIn F (Int32.toInt64 p2) 1 9 u1) (fun (r4 : Int32) (u3 : St) => if r4 = 0 then some ((-1), u3) else bd (pX0_addDraught F 0 p1 p2 u3) (fun (r6 : Int32) (u5 : St) => if r6 = 0 then some ((-3), u5) else some ((u5.1 2), u5))))
set_option maxRecDepth 100000 in
set_option maxHeartbeats 4000000 in
theorem tX6_blow {l : Launch} {D : va_G} {cI cZ : ClassId} {ad : Nat → Nat} {tBURNS tFLAME_BOUNDS : Nat} {tS : Option Nat} {adK adV : Nat → Nat} (F : Nat) (p1 : Int32) (p2 : Int32) (u : St) : CtI l D [(cI, .int), (cZ, .boolean)] (wX ad cI cZ) (EX tBURNS tFLAME_BOUNDS tS adK adV) yX6_blow wsX6_blow ({ frames := 1, cells := 0, slots := 0, locals := 23 } : Room) [.ref (ad 0), .int p1, .int p2] u (pX6_blow F p1 p2 u) := by
  refine ctI_of (own := RX6) (cc := cX6_blow) (n := 3) (ret := (some .int)) (by decide) rfl rfl (Nat.le_of_ble_eq_true rfl) (lv := [(0, .ref (ad 0)), (1, .int p1), (2, .int p2)]) rfl (fun C => ?_)
  have iX0 : ∀ w ∈ wsX00, w ∈ wsX6_blow := fun w h => List.mem_cons_of_mem _ (List.mem_append_right _ (inlX0 w h))
  have iX6 : ∀ w ∈ wsX60, w ∈ wsX6_blow := fun w h => List.mem_cons_of_mem _ (List.mem_append_right _ (inlX6 w h))
  rw [pX6_blow]
  refine g_iload_n C 0 1 dX6_blow_0 rfl ?_
  refine g_i2l C 1 dX6_blow_1 ?_
  refine g_iconst C 2 0 dX6_blow_2 rfl ?_
  refine g_bipush C 3 20 dX6_blow_3 rfl ?_
  refine g_callSi (st := []) (As := [.long (Int32.toInt64 p1), .int 0, .int 20]) C EX_ok EX_vm 5 3 (tX6_isIn F (Int32.toInt64 p1) 0 20 u) rfl gX6_blow_X6_isIn rfl rfl rfl (by decide +kernel) ⟨Nat.le_of_ble_eq_true rfl, Nat.le_of_ble_eq_true rfl⟩ rfl (Nat.le_of_ble_eq_true rfl) dX6_blow_5 (fun r2 u1 => ?_)
  refine g_if_eq C 8 22 dX6_blow_8 (by decide) ?_ ?_
  · skip
    refine g_iconst C 22 (-1) dX6_blow_22 rfl ?_
    exact g_iret C 23 dX6_blow_23
  · skip
    refine g_iload_n C 11 2 dX6_blow_11 rfl ?_
    refine g_i2l C 12 dX6_blow_12 ?_
    refine g_iconst C 13 1 dX6_blow_13 rfl ?_
    refine g_bipush C 14 9 dX6_blow_14 rfl ?_
    refine g_callSi (st := []) (As := [.long (Int32.toInt64 p2), .int 1, .int 9]) C EX_ok EX_vm 16 3 (tX6_isIn F (Int32.toInt64 p2) 1 9 u1) rfl gX6_blow_X6_isIn rfl rfl rfl (by decide +kernel) ⟨Nat.le_of_ble_eq_true rfl, Nat.le_of_ble_eq_true rfl⟩ rfl (Nat.le_of_ble_eq_true rfl) dX6_blow_16 (fun r4 u3 => ?_)
    refine g_if_ne C 19 24 dX6_blow_19 (by decide) ?_ ?_
    · skip
      refine g_aload_n C 24 0 dX6_blow_24 rfl ?_
      refine gfX_X6_court C 25 iX6 (List.mem_cons_of_mem _ (List.mem_append_right _ wgL_1_15.1)) dX6_blow_25 ?_
      refine g_iload_n C 28 1 dX6_blow_28 rfl ?_
      refine g_iload_n C 29 2 dX6_blow_29 rfl ?_
      refine g_callVi (st := []) (As := [.int p1, .int p2]) C EX_ok EX_vm 30 1 2 (tX0_addDraught F 0 (by decide) p1 p2 u3) rfl gX6_blow_X0_addDraught rfl rfl rfl (by decide +kernel) ⟨Nat.le_of_ble_eq_true rfl, Nat.le_of_ble_eq_true rfl⟩ (wX_X0 ad cI cZ _ 0 (by decide)) rfl rfl (Nat.le_of_ble_eq_true rfl) dX6_blow_30 (fun r6 u5 => ?_)
      refine g_if_eq C 33 46 dX6_blow_33 (by decide) ?_ ?_
      · skip
        refine g_bipush C 46 (-3) dX6_blow_46 rfl ?_
        exact g_iret C 48 dX6_blow_48
      · skip
        refine g_aload_n C 36 0 dX6_blow_36 rfl ?_
        refine gfX_X6_court C 37 iX6 (List.mem_cons_of_mem _ (List.mem_append_right _ wgL_1_15.1)) dX6_blow_37 ?_
        refine gfX_X0_draughts 0 (by decide) C 40 iX0 (List.mem_cons_of_mem _ (List.mem_append_right _ wgL_18_7.1)) dX6_blow_40 ?_
        refine g_goto C 43 48 dX6_blow_43 (by decide) ?_
        exact g_iret C 48 dX6_blow_48
    · skip
      refine g_iconst C 22 (-1) dX6_blow_22 rfl ?_
      exact g_iret C 23 dX6_blow_23
def pX6_calm (F : Nat) (p1 : Int32) (u : St) : Option (Int32 × St) :=
  bd (pX6_isIn F (Int32.toInt64 p1) 0 (u.1 2) u) (fun (r2 : Int32) (u1 : St) => if r2 = 0 then some ((-1), u1) else vl (u1.1 2) (fun v3 => vl (stf u1 2 p1) (fun (u4 : St) => some (v3, u4))))
set_option maxRecDepth 100000 in
set_option maxHeartbeats 4000000 in
theorem tX6_calm {l : Launch} {D : va_G} {cI cZ : ClassId} {ad : Nat → Nat} {tBURNS tFLAME_BOUNDS : Nat} {tS : Option Nat} {adK adV : Nat → Nat} (F : Nat) (p1 : Int32) (u : St) : CtI l D [(cI, .int), (cZ, .boolean)] (wX ad cI cZ) (EX tBURNS tFLAME_BOUNDS tS adK adV) yX6_calm wsX6_calm ({ frames := 1, cells := 0, slots := 0, locals := 23 } : Room) [.ref (ad 0), .int p1] u (pX6_calm F p1 u) := by
  refine ctI_of (own := RX6) (cc := cX6_calm) (n := 3) (ret := (some .int)) (by decide) rfl rfl (Nat.le_of_ble_eq_true rfl) (lv := [(0, .ref (ad 0)), (1, .int p1)]) rfl (fun C => ?_)
  have iX0 : ∀ w ∈ wsX00, w ∈ wsX6_calm := fun w h => List.mem_cons_of_mem _ (List.mem_append_right _ (inlX0 w h))
  have iX6 : ∀ w ∈ wsX60, w ∈ wsX6_calm := fun w h => List.mem_cons_of_mem _ (List.mem_append_right _ (inlX6 w h))
  rw [pX6_calm]
  refine g_iload_n C 0 1 dX6_calm_0 rfl ?_
  refine g_i2l C 1 dX6_calm_1 ?_
  refine g_iconst C 2 0 dX6_calm_2 rfl ?_
  refine g_aload_n C 3 0 dX6_calm_3 rfl ?_
  refine gfX_X6_court C 4 iX6 (List.mem_cons_of_mem _ (List.mem_append_right _ wgL_1_15.1)) dX6_calm_4 ?_
  refine gfX_X0_draughts 0 (by decide) C 7 iX0 (List.mem_cons_of_mem _ (List.mem_append_right _ wgL_18_7.1)) dX6_calm_7 ?_
  refine g_callSi (st := []) (As := [.long (Int32.toInt64 p1), .int 0, .int (u.1 2)]) C EX_ok EX_vm 10 3 (tX6_isIn F (Int32.toInt64 p1) 0 (u.1 2) u) rfl gX6_calm_X6_isIn rfl rfl rfl (by decide +kernel) ⟨Nat.le_of_ble_eq_true rfl, Nat.le_of_ble_eq_true rfl⟩ rfl (Nat.le_of_ble_eq_true rfl) dX6_calm_10 (fun r2 u1 => ?_)
  refine g_if_ne C 13 18 dX6_calm_13 (by decide) ?_ ?_
  · skip
    refine g_aload_n C 18 0 dX6_calm_18 rfl ?_
    refine gfX_X6_court C 19 iX6 (List.mem_cons_of_mem _ (List.mem_append_right _ wgL_1_15.1)) dX6_calm_19 ?_
    refine gfX_X0_draughts 0 (by decide) C 22 iX0 (List.mem_cons_of_mem _ (List.mem_append_right _ wgL_18_7.1)) dX6_calm_22 ?_
    refine g_istore_nV C 25 (fun v3 => [(2, .int v3), (0, .ref (ad 0)), (1, .int p1)]) dX6_calm_25 (by decide) (fun _ => rfl) (fun v3 => ?_)
    refine g_aload_n C 26 1 dX6_calm_26 rfl ?_
    refine gfX_X6_court C 27 iX6 (List.mem_cons_of_mem _ (List.mem_append_right _ wgL_1_15.1)) dX6_calm_27 ?_
    refine g_iload_n C 30 2 dX6_calm_30 rfl ?_
    refine pfX_X0_draughts 0 (by decide) C 31 iX0 (List.mem_cons_of_mem _ (List.mem_append_right _ wgL_18_7.1)) dX6_calm_31 (fun u4 => ?_)
    refine g_iload_n C 34 0 dX6_calm_34 rfl ?_
    exact g_iret C 35 dX6_calm_35
  · skip
    refine g_iconst C 16 (-1) dX6_calm_16 rfl ?_
    exact g_iret C 17 dX6_calm_17
def pX6_plan (F : Nat) (p1 : Int32) (p2 : Int32) (u : St) : Option (Int32 × St) :=
  bd (pX0_hasCase F 0 (Int32.toInt64 p1) u) (fun (r2 : Int32) (u1 : St) => if r2 = 0 then some ((-1), u1) else bd (pX0_hasJudge F 0 p2 u1) (fun (r4 : Int32) (u3 : St) => if r4 = 0 then some ((-1), u3) else bd (pX0_addHearing F 0 p1 p2 u3) (fun (r6 : Int32) (u5 : St) => if r6 = 0 then some ((-3), u5) else some ((u5.1 3), u5))))
set_option maxRecDepth 100000 in
set_option maxHeartbeats 4000000 in
theorem tX6_plan {l : Launch} {D : va_G} {cI cZ : ClassId} {ad : Nat → Nat} {tBURNS tFLAME_BOUNDS : Nat} {tS : Option Nat} {adK adV : Nat → Nat} (F : Nat) (p1 : Int32) (p2 : Int32) (u : St) : CtI l D [(cI, .int), (cZ, .boolean)] (wX ad cI cZ) (EX tBURNS tFLAME_BOUNDS tS adK adV) yX6_plan wsX6_plan ({ frames := 2, cells := 0, slots := 0, locals := 45 } : Room) [.ref (ad 0), .int p1, .int p2] u (pX6_plan F p1 p2 u) := by
  refine ctI_of (own := RX6) (cc := cX6_plan) (n := 3) (ret := (some .int)) (by decide) rfl rfl (Nat.le_of_ble_eq_true rfl) (lv := [(0, .ref (ad 0)), (1, .int p1), (2, .int p2)]) rfl (fun C => ?_)
  have iX0 : ∀ w ∈ wsX00, w ∈ wsX6_plan := fun w h => List.mem_cons_of_mem _ (List.mem_append_right _ (inlX0 w h))
  have iX6 : ∀ w ∈ wsX60, w ∈ wsX6_plan := fun w h => List.mem_cons_of_mem _ (List.mem_append_right _ (inlX6 w h))
  rw [pX6_plan]
  refine g_aload_n C 0 0 dX6_plan_0 rfl ?_
  refine gfX_X6_court C 1 iX6 (List.mem_cons_of_mem _ (List.mem_append_right _ wgL_1_15.1)) dX6_plan_1 ?_
  refine g_iload_n C 4 1 dX6_plan_4 rfl ?_
  refine g_i2l C 5 dX6_plan_5 ?_
  refine g_callVi (st := []) (As := [.long (Int32.toInt64 p1)]) C EX_ok EX_vm 6 1 1 (tX0_hasCase F 0 (by decide) (Int32.toInt64 p1) u) rfl gX6_plan_X0_hasCase rfl rfl rfl (by decide +kernel) ⟨Nat.le_of_ble_eq_true rfl, Nat.le_of_ble_eq_true rfl⟩ (wX_X0 ad cI cZ _ 0 (by decide)) rfl rfl (Nat.le_of_ble_eq_true rfl) dX6_plan_6 (fun r2 u1 => ?_)
  refine g_if_eq C 9 23 dX6_plan_9 (by decide) ?_ ?_
  · skip
    refine g_iconst C 23 (-1) dX6_plan_23 rfl ?_
    exact g_iret C 24 dX6_plan_24
  · skip
    refine g_aload_n C 12 0 dX6_plan_12 rfl ?_
    refine gfX_X6_court C 13 iX6 (List.mem_cons_of_mem _ (List.mem_append_right _ wgL_1_15.1)) dX6_plan_13 ?_
    refine g_iload_n C 16 2 dX6_plan_16 rfl ?_
    refine g_callVi (st := []) (As := [.int p2]) C EX_ok EX_vm 17 1 1 (tX0_hasJudge F 0 (by decide) p2 u1) rfl gX6_plan_X0_hasJudge rfl rfl rfl (by decide +kernel) ⟨Nat.le_of_ble_eq_true rfl, Nat.le_of_ble_eq_true rfl⟩ (wX_X0 ad cI cZ _ 0 (by decide)) rfl rfl (Nat.le_of_ble_eq_true rfl) dX6_plan_17 (fun r4 u3 => ?_)
    refine g_if_ne C 20 25 dX6_plan_20 (by decide) ?_ ?_
    · skip
      refine g_aload_n C 25 0 dX6_plan_25 rfl ?_
      refine gfX_X6_court C 26 iX6 (List.mem_cons_of_mem _ (List.mem_append_right _ wgL_1_15.1)) dX6_plan_26 ?_
      refine g_iload_n C 29 1 dX6_plan_29 rfl ?_
      refine g_iload_n C 30 2 dX6_plan_30 rfl ?_
      refine g_callVi (st := []) (As := [.int p1, .int p2]) C EX_ok EX_vm 31 1 2 (tX0_addHearing F 0 (by decide) p1 p2 u3) rfl gX6_plan_X0_addHearing rfl rfl rfl (by decide +kernel) ⟨Nat.le_of_ble_eq_true rfl, Nat.le_of_ble_eq_true rfl⟩ (wX_X0 ad cI cZ _ 0 (by decide)) rfl rfl (Nat.le_of_ble_eq_true rfl) dX6_plan_31 (fun r6 u5 => ?_)
      refine g_if_eq C 34 47 dX6_plan_34 (by decide) ?_ ?_
      · skip
        refine g_bipush C 47 (-3) dX6_plan_47 rfl ?_
        exact g_iret C 49 dX6_plan_49
      · skip
        refine g_aload_n C 37 0 dX6_plan_37 rfl ?_
        refine gfX_X6_court C 38 iX6 (List.mem_cons_of_mem _ (List.mem_append_right _ wgL_1_15.1)) dX6_plan_38 ?_
        refine gfX_X0_hearings 0 (by decide) C 41 iX0 (List.mem_cons_of_mem _ (List.mem_append_right _ wgL_18_8.1)) dX6_plan_41 ?_
        refine g_goto C 44 49 dX6_plan_44 (by decide) ?_
        exact g_iret C 49 dX6_plan_49
    · skip
      refine g_iconst C 23 (-1) dX6_plan_23 rfl ?_
      exact g_iret C 24 dX6_plan_24
def pX6_cut (F : Nat) (p1 : Int32) (u : St) : Option (Int32 × St) :=
  bd (pX6_isIn F (Int32.toInt64 p1) 0 (u.1 3) u) (fun (r2 : Int32) (u1 : St) => if r2 = 0 then some ((-1), u1) else vl (u1.1 3) (fun v3 => vl (stf u1 3 p1) (fun (u4 : St) => some (v3, u4))))
set_option maxRecDepth 100000 in
set_option maxHeartbeats 4000000 in
theorem tX6_cut {l : Launch} {D : va_G} {cI cZ : ClassId} {ad : Nat → Nat} {tBURNS tFLAME_BOUNDS : Nat} {tS : Option Nat} {adK adV : Nat → Nat} (F : Nat) (p1 : Int32) (u : St) : CtI l D [(cI, .int), (cZ, .boolean)] (wX ad cI cZ) (EX tBURNS tFLAME_BOUNDS tS adK adV) yX6_cut wsX6_cut ({ frames := 1, cells := 0, slots := 0, locals := 23 } : Room) [.ref (ad 0), .int p1] u (pX6_cut F p1 u) := by
  refine ctI_of (own := RX6) (cc := cX6_cut) (n := 3) (ret := (some .int)) (by decide) rfl rfl (Nat.le_of_ble_eq_true rfl) (lv := [(0, .ref (ad 0)), (1, .int p1)]) rfl (fun C => ?_)
  have iX0 : ∀ w ∈ wsX00, w ∈ wsX6_cut := fun w h => List.mem_cons_of_mem _ (List.mem_append_right _ (inlX0 w h))
  have iX6 : ∀ w ∈ wsX60, w ∈ wsX6_cut := fun w h => List.mem_cons_of_mem _ (List.mem_append_right _ (inlX6 w h))
  rw [pX6_cut]
  refine g_iload_n C 0 1 dX6_cut_0 rfl ?_
  refine g_i2l C 1 dX6_cut_1 ?_
  refine g_iconst C 2 0 dX6_cut_2 rfl ?_
  refine g_aload_n C 3 0 dX6_cut_3 rfl ?_
  refine gfX_X6_court C 4 iX6 (List.mem_cons_of_mem _ (List.mem_append_right _ wgL_1_15.1)) dX6_cut_4 ?_
  refine gfX_X0_hearings 0 (by decide) C 7 iX0 (List.mem_cons_of_mem _ (List.mem_append_right _ wgL_18_8.1)) dX6_cut_7 ?_
  refine g_callSi (st := []) (As := [.long (Int32.toInt64 p1), .int 0, .int (u.1 3)]) C EX_ok EX_vm 10 3 (tX6_isIn F (Int32.toInt64 p1) 0 (u.1 3) u) rfl gX6_cut_X6_isIn rfl rfl rfl (by decide +kernel) ⟨Nat.le_of_ble_eq_true rfl, Nat.le_of_ble_eq_true rfl⟩ rfl (Nat.le_of_ble_eq_true rfl) dX6_cut_10 (fun r2 u1 => ?_)
  refine g_if_ne C 13 18 dX6_cut_13 (by decide) ?_ ?_
  · skip
    refine g_aload_n C 18 0 dX6_cut_18 rfl ?_
    refine gfX_X6_court C 19 iX6 (List.mem_cons_of_mem _ (List.mem_append_right _ wgL_1_15.1)) dX6_cut_19 ?_
    refine gfX_X0_hearings 0 (by decide) C 22 iX0 (List.mem_cons_of_mem _ (List.mem_append_right _ wgL_18_8.1)) dX6_cut_22 ?_
    refine g_istore_nV C 25 (fun v3 => [(2, .int v3), (0, .ref (ad 0)), (1, .int p1)]) dX6_cut_25 (by decide) (fun _ => rfl) (fun v3 => ?_)
    refine g_aload_n C 26 1 dX6_cut_26 rfl ?_
    refine gfX_X6_court C 27 iX6 (List.mem_cons_of_mem _ (List.mem_append_right _ wgL_1_15.1)) dX6_cut_27 ?_
    refine g_iload_n C 30 2 dX6_cut_30 rfl ?_
    refine pfX_X0_hearings 0 (by decide) C 31 iX0 (List.mem_cons_of_mem _ (List.mem_append_right _ wgL_18_8.1)) dX6_cut_31 (fun u4 => ?_)
    refine g_iload_n C 34 0 dX6_cut_34 rfl ?_
    exact g_iret C 35 dX6_cut_35
  · skip
    refine g_iconst C 16 (-1) dX6_cut_16 rfl ?_
    exact g_iret C 17 dX6_cut_17
def pX5_blows (F : Nat) (p1 : Int32) (p2 : Int32) (u : St) : Option (Unit × St) :=
  gd (inb p1 21) (gd (inb p1 21) (vl (sta u 58 p1 (if (u.2 58 (Int32.toNatClampNeg p1)) < p2 then p2 else (u.2 58 (Int32.toNatClampNeg p1)))) (fun (u1 : St) => some ((), u1))))
set_option maxRecDepth 100000 in
set_option maxHeartbeats 4000000 in
theorem tX5_blows {l : Launch} {D : va_G} {cI cZ : ClassId} {ad : Nat → Nat} {tBURNS tFLAME_BOUNDS : Nat} {tS : Option Nat} {adK adV : Nat → Nat} (F : Nat) (p1 : Int32) (p2 : Int32) (u : St) : CtV l D [(cI, .int), (cZ, .boolean)] (wX ad cI cZ) (EX tBURNS tFLAME_BOUNDS tS adK adV) yX5_blows wsX5_blows ({ frames := 1, cells := 0, slots := 0, locals := 15 } : Room) [.ref (ad 6), .int p1, .int p2] u (pX5_blows F p1 p2 u) := by
  refine ctV_of (own := RX5) (cc := cX5_blows) (n := 3) (ret := none) (by decide) rfl rfl (Nat.le_of_ble_eq_true rfl) (lv := [(0, .ref (ad 6)), (1, .int p1), (2, .int p2)]) rfl (fun C => ?_)
  have iX5 : ∀ w ∈ wsX50, w ∈ wsX5_blows := fun w h => List.mem_cons_of_mem _ (List.mem_append_right _ (inlX5 w h))
  rw [pX5_blows]
  refine g_aload_n C 0 0 dX5_blows_0 rfl ?_
  refine gfX_X5_strongest C 1 iX5 (List.mem_cons_of_mem _ (List.mem_append_right _ wgL_4_11.1)) dX5_blows_1 ?_
  refine g_iload_n C 4 1 dX5_blows_4 rfl ?_
  refine g_aload_n C 5 0 dX5_blows_5 rfl ?_
  refine gfX_X5_strongest C 6 iX5 (List.mem_cons_of_mem _ (List.mem_append_right _ wgL_4_11.1)) dX5_blows_6 ?_
  refine g_iload_n C 9 1 dX5_blows_9 rfl ?_
  refine g_iald C 10 (10 + 58) 0 (wX_arr 58 (by decide)) rfl dX5_blows_10 ?_
  refine g_iload_n C 11 2 dX5_blows_11 rfl ?_
  refine g_mmax C 12 (by decide +kernel) (by decide +kernel) (by decide +kernel) (by decide +kernel) ⟨Nat.le_of_ble_eq_true rfl, Nat.le_of_ble_eq_true rfl⟩ dX5_blows_12 ?_
  refine g_iast C 15 (10 + 58) 0 58 (wX_arr 58 (by decide)) (wX_aset 58 (by decide)) rfl dX5_blows_15 (fun u1 => ?_)
  exact g_vret C 16 dX5_blows_16
def bX5_prepare_119 (F : Nat) (p4 : Int32) (self7 : Int32 → St → Option (Unit × St)) (x5 : Int32) (u6 : St) : Option (Unit × St) :=
  if (u6.1 2) ≤ x5 then some ((), u6) else jn (fun (u8 : St) => (self7 (x5 + 1) u8)) (fun (J156 : St → Option (Unit × St)) => if ((p4 >>> (x5 &&& 31)) &&& 1) = 0 then gd (inb x5 4) (gd (inb x5 4) (bd (pX5_blows F (u6.2 9 (Int32.toNatClampNeg x5)) (u6.2 10 (Int32.toNatClampNeg x5)) u6) (fun (_ : Unit) (u9 : St) => (J156 u9)))) else (J156 u6))
def jX5_prepare_116 (F : Nat) (p4 : Int32)  (u4 : St) : Option (Unit × St) :=
  (lq1 (bX5_prepare_119 F p4) F 0 u4)
def bX5_prepare_92 (F : Nat) (J116 : St → Option (Unit × St)) (self12 : Int32 → St → Option (Unit × St)) (x10 : Int32) (u11 : St) : Option (Unit × St) :=
  if (Int32.ofNat 21) ≤ x10 then (J116 u11) else gd (inb x10 21) (vl (sta u11 58 x10 0) (fun (u13 : St) => (self12 (x10 + 1) u13)))
def jX5_prepare_69 (F : Nat) (p3 : Int32) (p4 : Int32)  (u1 : St) : Option (Unit × St) :=
  gd (inb p3 3) (vl (stf u1 24 (u1.2 7 (Int32.toNatClampNeg p3))) (fun (u2 : St) => gd (inb p3 3) (vl (stf u2 25 (u2.2 8 (Int32.toNatClampNeg p3))) (fun (u3 : St) => jn (jX5_prepare_116 F p4) (fun (J116 : St → Option (Unit × St)) => (lq1 (bX5_prepare_92 F J116) F 0 u3))))))
def bX5_prepare_3 (F : Nat) (p2 : Int32) (J69 : St → Option (Unit × St)) (self16 : Int32 → St → Option (Unit × St)) (x14 : Int32) (u15 : St) : Option (Unit × St) :=
  if 2 ≤ x14 then (J69 u15) else gd (inb ((2 * p2) + x14) 8) (gd (inb x14 2) (vl (sta u15 55 x14 (u15.2 0 (Int32.toNatClampNeg ((2 * p2) + x14)))) (fun (u17 : St) => gd (inb ((2 * p2) + x14) 8) (gd (inb x14 2) (vl (sta u17 56 x14 (u17.2 1 (Int32.toNatClampNeg ((2 * p2) + x14)))) (fun (u18 : St) => gd (inb ((2 * p2) + x14) 8) (gd (inb x14 2) (vl (sta u18 57 x14 (u18.2 2 (Int32.toNatClampNeg ((2 * p2) + x14)))) (fun (u19 : St) => (self16 (x14 + 1) u19))))))))))
def pX5_prepare (F : Nat) (p2 : Int32) (p3 : Int32) (p4 : Int32) (u : St) : Option (Unit × St) :=
  jn (jX5_prepare_69 F p3 p4) (fun (J69 : St → Option (Unit × St)) => (lq1 (bX5_prepare_3 F p2 J69) F 0 u))
set_option maxRecDepth 100000 in
set_option maxHeartbeats 4000000 in
theorem tX5_prepare {l : Launch} {D : va_G} {cI cZ : ClassId} {ad : Nat → Nat} {tBURNS tFLAME_BOUNDS : Nat} {tS : Option Nat} {adK adV : Nat → Nat} (F : Nat) (p2 : Int32) (p3 : Int32) (p4 : Int32) (u : St) : CtV l D [(cI, .int), (cZ, .boolean)] (wX ad cI cZ) (EX tBURNS tFLAME_BOUNDS tS adK adV) yX5_prepare wsX5_prepare ({ frames := 2, cells := 0, slots := 0, locals := 37 } : Room) [.ref (ad 6), .ref (ad 1), .int p2, .int p3, .int p4] u (pX5_prepare F p2 p3 p4 u) := by
  refine ctV_of (own := RX5) (cc := cX5_prepare) (n := 6) (ret := none) (by decide) rfl rfl (Nat.le_of_ble_eq_true rfl) (lv := [(0, .ref (ad 6)), (1, .ref (ad 1)), (2, .int p2), (3, .int p3), (4, .int p4)]) rfl (fun C => ?_)
  have iX0 : ∀ w ∈ wsX00, w ∈ wsX5_prepare := fun w h => List.mem_cons_of_mem _ (List.mem_append_right _ (inlX0 w h))
  have iX5 : ∀ w ∈ wsX50, w ∈ wsX5_prepare := fun w h => List.mem_cons_of_mem _ (List.mem_append_right _ (inlX5 w h))
  rw [pX5_prepare]
  refine g_iconst C 0 0 dX5_prepare_0 rfl ?_
  refine g_istore C 1 [(5, .int 0), (0, .ref (ad 6)), (1, .ref (ad 1)), (2, .int p2), (3, .int p3), (4, .int p4)] dX5_prepare_1 (by decide) rfl ?_
  refine g_jn0 69 ([(0, .ref (ad 6)), (1, .ref (ad 1)), (3, .int p3), (4, .int p4)]) ([]) (fun u1 => ?_) (fun J69 hJ69 => ?_)
  · skip
    rw [jX5_prepare_69]
    refine g_aload_n C 69 0 dX5_prepare_69 rfl ?_
    refine g_aload_n C 70 1 dX5_prepare_70 rfl ?_
    refine gfX_X0_habit 0 (by decide) C 71 iX0 (List.mem_cons_of_mem _ (List.mem_append_right _ wgL_25_20.1)) dX5_prepare_71 ?_
    refine g_iload_n C 74 2 dX5_prepare_74 rfl ?_
    refine g_iald C 75 (10 + 7) 0 (wX_arr 7 (by decide)) rfl dX5_prepare_75 ?_
    refine pfX_X5_habit C 76 iX5 (List.mem_cons_of_mem _ (List.mem_append_right _ wgL_4_12.1)) dX5_prepare_76 (fun u2 => ?_)
    refine g_aload_n C 79 0 dX5_prepare_79 rfl ?_
    refine g_aload_n C 80 1 dX5_prepare_80 rfl ?_
    refine gfX_X0_slow 0 (by decide) C 81 iX0 (List.mem_cons_of_mem _ (List.mem_append_right _ wgL_25_21.1)) dX5_prepare_81 ?_
    refine g_iload_n C 84 2 dX5_prepare_84 rfl ?_
    refine g_iald C 85 (10 + 8) 0 (wX_arr 8 (by decide)) rfl dX5_prepare_85 ?_
    refine pfX_X5_slow C 86 iX5 (List.mem_cons_of_mem _ (List.mem_append_right _ wgL_4_13.1)) dX5_prepare_86 (fun u3 => ?_)
    refine g_iconst C 89 0 dX5_prepare_89 rfl ?_
    refine g_istore C 90 [(5, .int 0), (0, .ref (ad 6)), (1, .ref (ad 1)), (3, .int p3), (4, .int p4)] dX5_prepare_90 (by decide) rfl ?_
    refine g_jn0 116 ([(0, .ref (ad 6)), (1, .ref (ad 1)), (4, .int p4)]) ([]) (fun u4 => ?_) (fun J116 hJ116 => ?_)
    · skip
      rw [jX5_prepare_116]
      refine g_iconst C 116 0 dX5_prepare_116 rfl ?_
      refine g_istore C 117 [(5, .int 0), (0, .ref (ad 6)), (1, .ref (ad 1)), (4, .int p4)] dX5_prepare_117 (by decide) rfl ?_
      refine g_sub _ [1, 2, 3, 0] rfl ?_
      refine g_lq1 (fun (x5 : Int32) => [(0, .ref (ad 6)), (1, .ref (ad 1)), (4, .int p4), (5, .int x5)]) (fun self7 hself7 x5 u6 => ?_) F 0 u4
      rw [bX5_prepare_119]
      refine g_iload C 119 3 dX5_prepare_119 rfl ?_
      refine g_aload_n C 121 1 dX5_prepare_121 rfl ?_
      refine gfX_X0_draughts 0 (by decide) C 122 iX0 (List.mem_cons_of_mem _ (List.mem_append_right _ wgL_25_22.1)) dX5_prepare_122 ?_
      refine g_icmp_ge C 125 162 dX5_prepare_125 (by decide) ?_ ?_
      · skip
        exact g_vret C 162 dX5_prepare_162
      · skip
        refine g_iload C 128 2 dX5_prepare_128 rfl ?_
        refine g_iload C 130 3 dX5_prepare_130 rfl ?_
        refine g_ishr C 132 dX5_prepare_132 ?_
        refine g_iconst C 133 1 dX5_prepare_133 rfl ?_
        refine g_iand C 134 dX5_prepare_134 ?_
        refine g_jn0 156 ([(0, .ref (ad 6)), (1, .ref (ad 1)), (4, .int p4), (5, .int x5)]) ([]) (fun u8 => ?_) (fun J156 hJ156 => ?_)
        · skip
          refine g_iinc C 156 3 [(5, .int (x5 + 1)), (0, .ref (ad 6)), (1, .ref (ad 1)), (4, .int p4)] dX5_prepare_156 rfl rfl (by decide) rfl ?_
          refine g_goto C 159 119 dX5_prepare_159 (by decide) ?_
          exact g_sub _ [1, 2, 3, 0] rfl (hself7 (x5 + 1) u8)
        · skip
          refine g_if_ne C 135 156 dX5_prepare_135 (by decide) ?_ ?_
          · skip
            exact g_sub _ [0, 1, 2, 3] rfl (hJ156 u6)
          · skip
            refine g_aload_n C 138 0 dX5_prepare_138 rfl ?_
            refine g_aload_n C 139 1 dX5_prepare_139 rfl ?_
            refine gfX_X0_minute 0 (by decide) C 140 iX0 (List.mem_cons_of_mem _ (List.mem_append_right _ wgL_25_23.1)) dX5_prepare_140 ?_
            refine g_iload C 143 3 dX5_prepare_143 rfl ?_
            refine g_iald C 145 (10 + 9) 0 (wX_arr 9 (by decide)) rfl dX5_prepare_145 ?_
            refine g_aload_n C 146 1 dX5_prepare_146 rfl ?_
            refine gfX_X0_strength 0 (by decide) C 147 iX0 (List.mem_cons_of_mem _ (List.mem_append_right _ wgL_26_0.1)) dX5_prepare_147 ?_
            refine g_iload C 150 3 dX5_prepare_150 rfl ?_
            refine g_iald C 152 (10 + 10) 0 (wX_arr 10 (by decide)) rfl dX5_prepare_152 ?_
            refine g_callVv (st := []) (As := [.int (u6.2 9 (Int32.toNatClampNeg x5)), .int (u6.2 10 (Int32.toNatClampNeg x5))]) C EX_ok EX_vm 153 6 2 (tX5_blows F (u6.2 9 (Int32.toNatClampNeg x5)) (u6.2 10 (Int32.toNatClampNeg x5)) u6) rfl gX5_prepare_X5_blows rfl rfl rfl (by decide +kernel) ⟨Nat.le_of_ble_eq_true rfl, Nat.le_of_ble_eq_true rfl⟩ rfl rfl rfl (Nat.le_of_ble_eq_true rfl) dX5_prepare_153 (fun u9 => ?_)
            exact g_sub _ [0, 1, 2, 3] rfl (hJ156 u9)
    · skip
      refine g_sub _ [1, 2, 4, 0] rfl ?_
      refine g_lq1 (fun (x10 : Int32) => [(0, .ref (ad 6)), (1, .ref (ad 1)), (4, .int p4), (5, .int x10)]) (fun self12 hself12 x10 u11 => ?_) F 0 u3
      rw [bX5_prepare_92]
      refine g_iload C 92 3 dX5_prepare_92 rfl ?_
      refine g_aload_n C 94 0 dX5_prepare_94 rfl ?_
      refine gfX_X5_strongest C 95 iX5 (List.mem_cons_of_mem _ (List.mem_append_right _ wgL_4_11.1)) dX5_prepare_95 ?_
      refine g_alen C 98 (10 + 58) 0 (wX_arr 58 (by decide)) rfl dX5_prepare_98 ?_
      refine g_icmp_ge C 99 116 dX5_prepare_99 (by decide) ?_ ?_
      · skip
        exact g_sub _ [0, 1, 2] rfl (hJ116 u11)
      · skip
        refine g_aload_n C 102 0 dX5_prepare_102 rfl ?_
        refine gfX_X5_strongest C 103 iX5 (List.mem_cons_of_mem _ (List.mem_append_right _ wgL_4_11.1)) dX5_prepare_103 ?_
        refine g_iload C 106 3 dX5_prepare_106 rfl ?_
        refine g_iconst C 108 0 dX5_prepare_108 rfl ?_
        refine g_iast C 109 (10 + 58) 0 58 (wX_arr 58 (by decide)) (wX_aset 58 (by decide)) rfl dX5_prepare_109 (fun u13 => ?_)
        refine g_iinc C 110 3 [(5, .int (x10 + 1)), (0, .ref (ad 6)), (1, .ref (ad 1)), (4, .int p4)] dX5_prepare_110 rfl rfl (by decide) rfl ?_
        refine g_goto C 113 92 dX5_prepare_113 (by decide) ?_
        exact g_sub _ [1, 2, 3, 0] rfl (hself12 (x10 + 1) u13)
  · skip
    refine g_sub _ [1, 2, 3, 4, 5, 0] rfl ?_
    refine g_lq1 (fun (x14 : Int32) => [(0, .ref (ad 6)), (1, .ref (ad 1)), (2, .int p2), (3, .int p3), (4, .int p4), (5, .int x14)]) (fun self16 hself16 x14 u15 => ?_) F 0 u
    rw [bX5_prepare_3]
    refine g_iload C 3 5 dX5_prepare_3 rfl ?_
    refine g_iconst C 5 2 dX5_prepare_5 rfl ?_
    refine g_icmp_ge C 6 69 dX5_prepare_6 (by decide) ?_ ?_
    · skip
      exact g_sub _ [0, 1, 3, 4] rfl (hJ69 u15)
    · skip
      refine g_aload_n C 9 0 dX5_prepare_9 rfl ?_
      refine gfX_X5_kind C 10 iX5 (List.mem_cons_of_mem _ (List.mem_append_right _ wgL_4_8.1)) dX5_prepare_10 ?_
      refine g_iload C 13 5 dX5_prepare_13 rfl ?_
      refine g_aload_n C 15 1 dX5_prepare_15 rfl ?_
      refine gfX_X0_kind 0 (by decide) C 16 iX0 (List.mem_cons_of_mem _ (List.mem_append_right _ wgL_25_17.1)) dX5_prepare_16 ?_
      refine g_iconst C 19 2 dX5_prepare_19 rfl ?_
      refine g_iload_n C 20 2 dX5_prepare_20 rfl ?_
      refine g_imul C 21 dX5_prepare_21 ?_
      refine g_iload C 22 5 dX5_prepare_22 rfl ?_
      refine g_iadd C 24 dX5_prepare_24 ?_
      refine g_iald C 25 (10 + 0) 0 (wX_arr 0 (by decide)) rfl dX5_prepare_25 ?_
      refine g_iast C 26 (10 + 55) 0 55 (wX_arr 55 (by decide)) (wX_aset 55 (by decide)) rfl dX5_prepare_26 (fun u17 => ?_)
      refine g_aload_n C 27 0 dX5_prepare_27 rfl ?_
      refine gfX_X5_length C 28 iX5 (List.mem_cons_of_mem _ (List.mem_append_right _ wgL_4_9.1)) dX5_prepare_28 ?_
      refine g_iload C 31 5 dX5_prepare_31 rfl ?_
      refine g_aload_n C 33 1 dX5_prepare_33 rfl ?_
      refine gfX_X0_length 0 (by decide) C 34 iX0 (List.mem_cons_of_mem _ (List.mem_append_right _ wgL_25_18.1)) dX5_prepare_34 ?_
      refine g_iconst C 37 2 dX5_prepare_37 rfl ?_
      refine g_iload_n C 38 2 dX5_prepare_38 rfl ?_
      refine g_imul C 39 dX5_prepare_39 ?_
      refine g_iload C 40 5 dX5_prepare_40 rfl ?_
      refine g_iadd C 42 dX5_prepare_42 ?_
      refine g_iald C 43 (10 + 1) 0 (wX_arr 1 (by decide)) rfl dX5_prepare_43 ?_
      refine g_iast C 44 (10 + 56) 0 56 (wX_arr 56 (by decide)) (wX_aset 56 (by decide)) rfl dX5_prepare_44 (fun u18 => ?_)
      refine g_aload_n C 45 0 dX5_prepare_45 rfl ?_
      refine gfX_X5_guard C 46 iX5 (List.mem_cons_of_mem _ (List.mem_append_right _ wgL_4_10.1)) dX5_prepare_46 ?_
      refine g_iload C 49 5 dX5_prepare_49 rfl ?_
      refine g_aload_n C 51 1 dX5_prepare_51 rfl ?_
      refine gfX_X0_guard 0 (by decide) C 52 iX0 (List.mem_cons_of_mem _ (List.mem_append_right _ wgL_25_19.1)) dX5_prepare_52 ?_
      refine g_iconst C 55 2 dX5_prepare_55 rfl ?_
      refine g_iload_n C 56 2 dX5_prepare_56 rfl ?_
      refine g_imul C 57 dX5_prepare_57 ?_
      refine g_iload C 58 5 dX5_prepare_58 rfl ?_
      refine g_iadd C 60 dX5_prepare_60 ?_
      refine g_iald C 61 (10 + 2) 0 (wX_arr 2 (by decide)) rfl dX5_prepare_61 ?_
      refine g_iast C 62 (10 + 57) 0 57 (wX_arr 57 (by decide)) (wX_aset 57 (by decide)) rfl dX5_prepare_62 (fun u19 => ?_)
      refine g_iinc C 63 5 [(5, .int (x14 + 1)), (0, .ref (ad 6)), (1, .ref (ad 1)), (2, .int p2), (3, .int p3), (4, .int p4)] dX5_prepare_63 rfl rfl (by decide) rfl ?_
      refine g_goto C 66 3 dX5_prepare_66 (by decide) ?_
      exact g_sub _ [1, 2, 3, 4, 5, 0] rfl (hself16 (x14 + 1) u19)
def pX6_prepare (F : Nat) (p1 : Int32) (p2 : Int32) (p3 : Int32) (u : St) : Option (Unit × St) :=
  bd (pX5_prepare F p1 p2 p3 u) (fun (_ : Unit) (u1 : St) => some ((), u1))
set_option maxRecDepth 100000 in
set_option maxHeartbeats 4000000 in
theorem tX6_prepare {l : Launch} {D : va_G} {cI cZ : ClassId} {ad : Nat → Nat} {tBURNS tFLAME_BOUNDS : Nat} {tS : Option Nat} {adK adV : Nat → Nat} (F : Nat) (p1 : Int32) (p2 : Int32) (p3 : Int32) (u : St) : CtV l D [(cI, .int), (cZ, .boolean)] (wX ad cI cZ) (EX tBURNS tFLAME_BOUNDS tS adK adV) yX6_prepare wsX6_prepare ({ frames := 3, cells := 0, slots := 0, locals := 62 } : Room) [.ref (ad 0), .int p1, .int p2, .int p3] u (pX6_prepare F p1 p2 p3 u) := by
  refine ctV_of (own := RX6) (cc := cX6_prepare) (n := 4) (ret := none) (by decide) rfl rfl (Nat.le_of_ble_eq_true rfl) (lv := [(0, .ref (ad 0)), (1, .int p1), (2, .int p2), (3, .int p3)]) rfl (fun C => ?_)
  have iX6 : ∀ w ∈ wsX60, w ∈ wsX6_prepare := fun w h => List.mem_cons_of_mem _ (List.mem_append_right _ (inlX6 w h))
  rw [pX6_prepare]
  refine g_aload_n C 0 0 dX6_prepare_0 rfl ?_
  refine gfX_X6_trial C 1 iX6 (List.mem_cons_of_mem _ (List.mem_append_right _ wgL_2_3.1)) dX6_prepare_1 ?_
  refine g_aload_n C 4 0 dX6_prepare_4 rfl ?_
  refine gfX_X6_court C 5 iX6 (List.mem_cons_of_mem _ (List.mem_append_right _ wgL_1_15.1)) dX6_prepare_5 ?_
  refine g_iload_n C 8 1 dX6_prepare_8 rfl ?_
  refine g_iload_n C 9 2 dX6_prepare_9 rfl ?_
  refine g_iload_n C 10 3 dX6_prepare_10 rfl ?_
  refine g_callVv (st := []) (As := [.ref (ad 1), .int p1, .int p2, .int p3]) C EX_ok EX_vm 11 6 4 (tX5_prepare F p1 p2 p3 u) rfl gX6_prepare_X5_prepare rfl rfl rfl (by decide +kernel) ⟨Nat.le_of_ble_eq_true rfl, Nat.le_of_ble_eq_true rfl⟩ rfl rfl rfl (Nat.le_of_ble_eq_true rfl) dX6_prepare_11 (fun u1 => ?_)
  exact g_vret C 14 dX6_prepare_14
def pX5_burnsStill (F : Nat) (p1 : Int32) (u : St) : Option (Int32 × St) :=
  gd (inb p1 2) (if (u.2 56 (Int32.toNatClampNeg p1)) ≤ 0 then some (0, u) else gd (inb p1 2) (gd (inb (u.1 26) 21) (if (u.2 57 (Int32.toNatClampNeg p1)) < (u.2 58 (Int32.toNatClampNeg (u.1 26))) then some (0, u) else some (1, u))))
set_option maxRecDepth 100000 in
set_option maxHeartbeats 4000000 in
theorem tX5_burnsStill {l : Launch} {D : va_G} {cI cZ : ClassId} {ad : Nat → Nat} {tBURNS tFLAME_BOUNDS : Nat} {tS : Option Nat} {adK adV : Nat → Nat} (F : Nat) (p1 : Int32) (u : St) : CtI l D [(cI, .int), (cZ, .boolean)] (wX ad cI cZ) (EX tBURNS tFLAME_BOUNDS tS adK adV) yX5_burnsStill wsX5_burnsStill ({ frames := 0, cells := 0, slots := 0, locals := 0 } : Room) [.ref (ad 6), .int p1] u (pX5_burnsStill F p1 u) := by
  refine ctI_of (own := RX5) (cc := cX5_burnsStill) (n := 2) (ret := (some .boolean)) (by decide) rfl rfl (Nat.le_of_ble_eq_true rfl) (lv := [(0, .ref (ad 6)), (1, .int p1)]) rfl (fun C => ?_)
  have iX5 : ∀ w ∈ wsX50, w ∈ wsX5_burnsStill := fun w h => List.mem_cons_of_mem _ (List.mem_append_right _ (inlX5 w h))
  rw [pX5_burnsStill]
  refine g_aload_n C 0 0 dX5_burnsStill_0 rfl ?_
  refine gfX_X5_length C 1 iX5 (List.mem_cons_of_mem _ (List.mem_append_right _ wgL_4_9.1)) dX5_burnsStill_1 ?_
  refine g_iload_n C 4 1 dX5_burnsStill_4 rfl ?_
  refine g_iald C 5 (10 + 56) 0 (wX_arr 56 (by decide)) rfl dX5_burnsStill_5 ?_
  refine g_if_le C 6 31 dX5_burnsStill_6 (by decide) ?_ ?_
  · skip
    refine g_iconst C 31 0 dX5_burnsStill_31 rfl ?_
    exact g_nret C 32 rfl dX5_burnsStill_32
  · skip
    refine g_aload_n C 9 0 dX5_burnsStill_9 rfl ?_
    refine gfX_X5_guard C 10 iX5 (List.mem_cons_of_mem _ (List.mem_append_right _ wgL_4_10.1)) dX5_burnsStill_10 ?_
    refine g_iload_n C 13 1 dX5_burnsStill_13 rfl ?_
    refine g_iald C 14 (10 + 57) 0 (wX_arr 57 (by decide)) rfl dX5_burnsStill_14 ?_
    refine g_aload_n C 15 0 dX5_burnsStill_15 rfl ?_
    refine gfX_X5_strongest C 16 iX5 (List.mem_cons_of_mem _ (List.mem_append_right _ wgL_4_11.1)) dX5_burnsStill_16 ?_
    refine g_aload_n C 19 0 dX5_burnsStill_19 rfl ?_
    refine gfX_X5_minute C 20 iX5 (List.mem_cons_of_mem _ (List.mem_append_right _ wgL_4_14.1)) dX5_burnsStill_20 ?_
    refine g_iald C 23 (10 + 58) 0 (wX_arr 58 (by decide)) rfl dX5_burnsStill_23 ?_
    refine g_icmp_lt C 24 31 dX5_burnsStill_24 (by decide) ?_ ?_
    · skip
      refine g_iconst C 31 0 dX5_burnsStill_31 rfl ?_
      exact g_nret C 32 rfl dX5_burnsStill_32
    · skip
      refine g_iconst C 27 1 dX5_burnsStill_27 rfl ?_
      refine g_goto C 28 32 dX5_burnsStill_28 (by decide) ?_
      exact g_nret C 32 rfl dX5_burnsStill_32
def pX5_goesTo (F : Nat)  (u : St) : Option (Int32 × St) :=
  gd (inb 1 2) (gd (inb 0 2) (jn (fun (a1 : Int32) (u2 : St) => if (u2.1 24) = 1 then some (a1, u2) else if (u2.1 24) = 2 then some ((1 - a1), u2) else if (u2.1 24) = 3 then gd (inb 1 2) (gd (inb 0 2) (if (u2.2 57 (Int32.toNatClampNeg 0)) ≤ (u2.2 57 (Int32.toNatClampNeg 1)) then some (0, u2) else some (1, u2))) else some (0, u2)) (fun (J20 : Int32 → St → Option (Int32 × St)) => if (u.2 56 (Int32.toNatClampNeg 1)) ≤ (u.2 56 (Int32.toNatClampNeg 0)) then (J20 0 u) else (J20 1 u))))
set_option maxRecDepth 100000 in
set_option maxHeartbeats 4000000 in
theorem tX5_goesTo {l : Launch} {D : va_G} {cI cZ : ClassId} {ad : Nat → Nat} {tBURNS tFLAME_BOUNDS : Nat} {tS : Option Nat} {adK adV : Nat → Nat} (F : Nat)  (u : St) : CtI l D [(cI, .int), (cZ, .boolean)] (wX ad cI cZ) (EX tBURNS tFLAME_BOUNDS tS adK adV) yX5_goesTo wsX5_goesTo ({ frames := 0, cells := 0, slots := 0, locals := 0 } : Room) [.ref (ad 6)] u (pX5_goesTo F u) := by
  refine ctI_of (own := RX5) (cc := cX5_goesTo) (n := 2) (ret := (some .int)) (by decide) rfl rfl (Nat.le_of_ble_eq_true rfl) (lv := [(0, .ref (ad 6))]) rfl (fun C => ?_)
  have iX5 : ∀ w ∈ wsX50, w ∈ wsX5_goesTo := fun w h => List.mem_cons_of_mem _ (List.mem_append_right _ (inlX5 w h))
  rw [pX5_goesTo]
  refine g_aload_n C 0 0 dX5_goesTo_0 rfl ?_
  refine gfX_X5_length C 1 iX5 (List.mem_cons_of_mem _ (List.mem_append_right _ wgL_4_9.1)) dX5_goesTo_1 ?_
  refine g_iconst C 4 1 dX5_goesTo_4 rfl ?_
  refine g_iald C 5 (10 + 56) 0 (wX_arr 56 (by decide)) rfl dX5_goesTo_5 ?_
  refine g_aload_n C 6 0 dX5_goesTo_6 rfl ?_
  refine gfX_X5_length C 7 iX5 (List.mem_cons_of_mem _ (List.mem_append_right _ wgL_4_9.1)) dX5_goesTo_7 ?_
  refine g_iconst C 10 0 dX5_goesTo_10 rfl ?_
  refine g_iald C 11 (10 + 56) 0 (wX_arr 56 (by decide)) rfl dX5_goesTo_11 ?_
  refine g_jn1 20 (fun (a1 : Int32) => [(0, .ref (ad 6))]) (fun (a1 : Int32) => [.int a1]) (fun a1 u2 => ?_) (fun J20 hJ20 => ?_)
  · skip
    refine g_istore_n C 20 [(1, .int a1), (0, .ref (ad 6))] dX5_goesTo_20 (by decide) rfl ?_
    refine g_aload_n C 21 1 dX5_goesTo_21 rfl ?_
    refine gfX_X5_habit C 22 iX5 (List.mem_cons_of_mem _ (List.mem_append_right _ wgL_4_12.1)) dX5_goesTo_22 ?_
    refine g_tsw C 25 52 1 dX5_goesTo_25 (by decide) rfl (by decide) ?_ (fun q1 => ?_)
    · skip
      refine g_iload_n C 52 0 dX5_goesTo_52 rfl ?_
      exact g_iret C 53 dX5_goesTo_53
    refine g_tsw C 25 54 2 dX5_goesTo_25 (by decide) rfl (by decide) ?_ (fun q2 => ?_)
    · skip
      refine g_iconst C 54 1 dX5_goesTo_54 rfl ?_
      refine g_iload_n C 55 0 dX5_goesTo_55 rfl ?_
      refine g_isub C 56 dX5_goesTo_56 ?_
      exact g_iret C 57 dX5_goesTo_57
    refine g_tsw C 25 58 3 dX5_goesTo_25 (by decide) rfl (by decide) ?_ (fun q3 => ?_)
    · skip
      refine g_aload_n C 58 1 dX5_goesTo_58 rfl ?_
      refine gfX_X5_guard C 59 iX5 (List.mem_cons_of_mem _ (List.mem_append_right _ wgL_4_10.1)) dX5_goesTo_59 ?_
      refine g_iconst C 62 1 dX5_goesTo_62 rfl ?_
      refine g_iald C 63 (10 + 57) 0 (wX_arr 57 (by decide)) rfl dX5_goesTo_63 ?_
      refine g_aload_n C 64 1 dX5_goesTo_64 rfl ?_
      refine gfX_X5_guard C 65 iX5 (List.mem_cons_of_mem _ (List.mem_append_right _ wgL_4_10.1)) dX5_goesTo_65 ?_
      refine g_iconst C 68 0 dX5_goesTo_68 rfl ?_
      refine g_iald C 69 (10 + 57) 0 (wX_arr 57 (by decide)) rfl dX5_goesTo_69 ?_
      refine g_icmp_ge C 70 77 dX5_goesTo_70 (by decide) ?_ ?_
      · skip
        refine g_iconst C 77 0 dX5_goesTo_77 rfl ?_
        exact g_iret C 78 dX5_goesTo_78
      · skip
        refine g_iconst C 73 1 dX5_goesTo_73 rfl ?_
        refine g_goto C 74 78 dX5_goesTo_74 (by decide) ?_
        exact g_iret C 78 dX5_goesTo_78
    refine g_tswD C 25 79 dX5_goesTo_25 (by have r1 := lv_neT (a := 1) q1 rfl; have r2 := lv_neT (a := 2) q2 rfl; have r3 := lv_neT (a := 3) q3 rfl; omega) (by decide) ?_
    refine g_iconst C 79 0 dX5_goesTo_79 rfl ?_
    exact g_iret C 80 dX5_goesTo_80
  · skip
    refine g_icmp_le C 12 19 dX5_goesTo_12 (by decide) ?_ ?_
    · skip
      refine g_iconst C 19 0 dX5_goesTo_19 rfl ?_
      exact g_sub _ [0] rfl (hJ20 0 u)
    · skip
      refine g_iconst C 15 1 dX5_goesTo_15 rfl ?_
      refine g_goto C 16 20 dX5_goesTo_16 (by decide) ?_
      exact g_sub _ [0] rfl (hJ20 1 u)
end
