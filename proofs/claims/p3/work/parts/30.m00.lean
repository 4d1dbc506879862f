def pX7_in (F : Nat) (p1 : Int64) (p2 : Int64) (p3 : Int64) (u : St) : Option (Int32 × St) :=
  if (lg_cmp p1 p2) < 0 then some (0, u) else if 0 < (lg_cmp p1 p3) then some (0, u) else some (1, u)
set_option maxRecDepth 100000 in
set_option maxHeartbeats 4000000 in
theorem tX7_in {l : Launch} {D : va_G} {cI cZ : ClassId} {ad : Nat → Nat} (F : Nat) (p1 : Int64) (p2 : Int64) (p3 : Int64) (u : St) : CtI l D [(cI, .int), (cZ, .boolean)] (wM ad cI cZ) E0 yX7_in wsX7_in ({ frames := 0, cells := 0, slots := 0, locals := 0 } : Room) [.long p1, .long p2, .long p3] u (pX7_in F p1 p2 p3 u) := by
  refine ctI_of (own := RX7) (cc := cX7_in) (n := 6) (ret := (some .boolean)) (by decide) rfl rfl (Nat.le_of_ble_eq_true rfl) (lv := [(0, .long p1), (2, .long p2), (4, .long p3)]) rfl (fun C => ?_)
  rw [pX7_in]
  refine g_lload_n C 0 0 dX7_in_0 rfl ?_
  refine g_lload_n C 1 1 dX7_in_1 rfl ?_
  refine g_lcmp C 2 dX7_in_2 ?_
  refine g_if_lt C 3 17 dX7_in_3 (by decide) ?_ ?_
  · skip
    refine g_iconst C 17 0 dX7_in_17 rfl ?_
    exact g_nret C 18 rfl dX7_in_18
  · skip
    refine g_lload_n C 6 0 dX7_in_6 rfl ?_
    refine g_lload C 7 2 dX7_in_7 rfl ?_
    refine g_lcmp C 9 dX7_in_9 ?_
    refine g_if_gt C 10 17 dX7_in_10 (by decide) ?_ ?_
    · skip
      refine g_iconst C 17 0 dX7_in_17 rfl ?_
      exact g_nret C 18 rfl dX7_in_18
    · skip
      refine g_iconst C 13 1 dX7_in_13 rfl ?_
      refine g_goto C 14 18 dX7_in_14 (by decide) ?_
      exact g_nret C 18 rfl dX7_in_18
def pX7_feed (F : Nat) (p1 : Int32) (u : St) : Option (Int32 × St) :=
  bd (pX7_in F (Int32.toInt64 p1) 0 127 u) (fun (r2 : Int32) (u1 : St) => if r2 = 0 then some ((-1), u1) else if (u1.1 7) = 160 then some ((-3), u1) else gd (inb (u1.1 7) 160) (vl (sta u1 3 (u1.1 7) p1) (fun (u3 : St) => vl (stf u3 7 ((u3.1 7) + 1)) (fun (u4 : St) => some ((u4.1 7), u4)))))
set_option maxRecDepth 100000 in
set_option maxHeartbeats 4000000 in
theorem tX7_feed {l : Launch} {D : va_G} {cI cZ : ClassId} {ad : Nat → Nat} (F : Nat) (p1 : Int32) (u : St) : CtI l D [(cI, .int), (cZ, .boolean)] (wM ad cI cZ) E0 yX7_feed wsX7_feed ({ frames := 1, cells := 0, slots := 0, locals := 25 } : Room) [.ref (ad 0), .int p1] u (pX7_feed F p1 u) := by
  refine ctI_of (own := RX7) (cc := cX7_feed) (n := 2) (ret := (some .int)) (by decide) rfl rfl (Nat.le_of_ble_eq_true rfl) (lv := [(0, .ref (ad 0)), (1, .int p1)]) rfl (fun C => ?_)
  have iX7 : ∀ w ∈ wsX70, w ∈ wsX7_feed := fun w h => List.mem_cons_of_mem _ (List.mem_append_right _ (inlX7 w h))
  rw [pX7_feed]
  refine g_iload_n C 0 1 dX7_feed_0 rfl ?_
  refine g_i2l C 1 dX7_feed_1 ?_
  refine g_lconst C 2 0 dX7_feed_2 rfl ?_
  refine g_ldc2 C 3 127 (by decide +kernel) dX7_feed_3 ?_
  refine g_callSi (st := []) (As := [.long (Int32.toInt64 p1), .long 0, .long 127]) C E0_ok E0_vm 6 3 (tX7_in F (Int32.toInt64 p1) 0 127 u) rfl gX7_feed_X7_in rfl rfl rfl (by decide +kernel) ⟨Nat.le_of_ble_eq_true rfl, Nat.le_of_ble_eq_true rfl⟩ rfl (Nat.le_of_ble_eq_true rfl) dX7_feed_6 (fun r2 u1 => ?_)
  refine g_if_ne C 9 14 dX7_feed_9 (by decide) ?_ ?_
  · skip
    refine g_aload_n C 14 0 dX7_feed_14 rfl ?_
    refine gfM_X7_taped C 15 iX7 (List.mem_cons_of_mem _ (List.mem_append_right _ wgL_6_20.1)) dX7_feed_15 ?_
    refine g_sipush C 18 160 dX7_feed_18 rfl ?_
    refine g_icmp_ne C 21 27 dX7_feed_21 (by decide) ?_ ?_
    · skip
      refine g_aload_n C 27 0 dX7_feed_27 rfl ?_
      refine gfM_X7_tape C 28 iX7 (List.mem_cons_of_mem _ (List.mem_append_right _ wgL_5_17.1)) dX7_feed_28 ?_
      refine g_aload_n C 31 0 dX7_feed_31 rfl ?_
      refine gfM_X7_taped C 32 iX7 (List.mem_cons_of_mem _ (List.mem_append_right _ wgL_6_20.1)) dX7_feed_32 ?_
      refine g_iload_n C 35 1 dX7_feed_35 rfl ?_
      refine g_iast C 36 (1 + 3) 0 3 (wM_arr 3 (by decide)) (wM_aset 3 (by decide)) rfl dX7_feed_36 (fun u3 => ?_)
      refine g_aload_n C 37 0 dX7_feed_37 rfl ?_
      refine g_dup C 38 dX7_feed_38 rfl ?_
      refine gfM_X7_taped C 39 iX7 (List.mem_cons_of_mem _ (List.mem_append_right _ wgL_6_20.1)) dX7_feed_39 ?_
      refine g_iconst C 42 1 dX7_feed_42 rfl ?_
      refine g_iadd C 43 dX7_feed_43 ?_
      refine pfM_X7_taped C 44 iX7 (List.mem_cons_of_mem _ (List.mem_append_right _ wgL_6_20.1)) dX7_feed_44 (fun u4 => ?_)
      refine g_aload_n C 47 0 dX7_feed_47 rfl ?_
      refine gfM_X7_taped C 48 iX7 (List.mem_cons_of_mem _ (List.mem_append_right _ wgL_6_20.1)) dX7_feed_48 ?_
      exact g_iret C 51 dX7_feed_51
    · skip
      refine g_bipush C 24 (-3) dX7_feed_24 rfl ?_
      exact g_iret C 26 dX7_feed_26
  · skip
    refine g_iconst C 12 (-1) dX7_feed_12 rfl ?_
    exact g_iret C 13 dX7_feed_13
def pX7_end (F : Nat) (p1 : Int32) (u : St) : Option (Int32 × St) :=
  bd (pX7_in F (Int32.toInt64 p1) 0 (Int32.toInt64 (u.1 7)) u) (fun (r2 : Int32) (u1 : St) => if r2 = 0 then some ((-1), u1) else vl (u1.1 7) (fun v3 => vl (stf u1 7 p1) (fun (u4 : St) => some (v3, u4))))
set_option maxRecDepth 100000 in
set_option maxHeartbeats 4000000 in
theorem tX7_end {l : Launch} {D : va_G} {cI cZ : ClassId} {ad : Nat → Nat} (F : Nat) (p1 : Int32) (u : St) : CtI l D [(cI, .int), (cZ, .boolean)] (wM ad cI cZ) E0 yX7_end wsX7_end ({ frames := 1, cells := 0, slots := 0, locals := 25 } : Room) [.ref (ad 0), .int p1] u (pX7_end F p1 u) := by
  refine ctI_of (own := RX7) (cc := cX7_end) (n := 3) (ret := (some .int)) (by decide) rfl rfl (Nat.le_of_ble_eq_true rfl) (lv := [(0, .ref (ad 0)), (1, .int p1)]) rfl (fun C => ?_)
  have iX7 : ∀ w ∈ wsX70, w ∈ wsX7_end := fun w h => List.mem_cons_of_mem _ (List.mem_append_right _ (inlX7 w h))
  rw [pX7_end]
  refine g_iload_n C 0 1 dX7_end_0 rfl ?_
  refine g_i2l C 1 dX7_end_1 ?_
  refine g_lconst C 2 0 dX7_end_2 rfl ?_
  refine g_aload_n C 3 0 dX7_end_3 rfl ?_
  refine gfM_X7_taped C 4 iX7 (List.mem_cons_of_mem _ (List.mem_append_right _ wgL_6_20.1)) dX7_end_4 ?_
  refine g_i2l C 7 dX7_end_7 ?_
  refine g_callSi (st := []) (As := [.long (Int32.toInt64 p1), .long 0, .long (Int32.toInt64 (u.1 7))]) C E0_ok E0_vm 8 3 (tX7_in F (Int32.toInt64 p1) 0 (Int32.toInt64 (u.1 7)) u) rfl gX7_end_X7_in rfl rfl rfl (by decide +kernel) ⟨Nat.le_of_ble_eq_true rfl, Nat.le_of_ble_eq_true rfl⟩ rfl (Nat.le_of_ble_eq_true rfl) dX7_end_8 (fun r2 u1 => ?_)
  refine g_if_ne C 11 16 dX7_end_11 (by decide) ?_ ?_
  · skip
    refine g_aload_n C 16 0 dX7_end_16 rfl ?_
    refine gfM_X7_taped C 17 iX7 (List.mem_cons_of_mem _ (List.mem_append_right _ wgL_6_20.1)) dX7_end_17 ?_
    refine g_istore_nV C 20 (fun v3 => [(2, .int v3), (0, .ref (ad 0)), (1, .int p1)]) dX7_end_20 (by decide) (fun _ => rfl) (fun v3 => ?_)
    refine g_aload_n C 21 1 dX7_end_21 rfl ?_
    refine g_iload_n C 22 2 dX7_end_22 rfl ?_
    refine pfM_X7_taped C 23 iX7 (List.mem_cons_of_mem _ (List.mem_append_right _ wgL_6_20.1)) dX7_end_23 (fun u4 => ?_)
    refine g_iload_n C 26 0 dX7_end_26 rfl ?_
    exact g_iret C 27 dX7_end_27
  · skip
    refine g_iconst C 14 (-1) dX7_end_14 rfl ?_
    exact g_iret C 15 dX7_end_15
def pX7_byteAt (F : Nat) (p1 : Int32) (u : St) : Option (Int32 × St) :=
  if (u.1 7) ≤ p1 then some ((-4), u) else gd (inb p1 160) (some ((u.2 3 (Int32.toNatClampNeg p1)), u))
set_option maxRecDepth 100000 in
set_option maxHeartbeats 4000000 in
theorem tX7_byteAt {l : Launch} {D : va_G} {cI cZ : ClassId} {ad : Nat → Nat} (F : Nat) (p1 : Int32) (u : St) : CtI l D [(cI, .int), (cZ, .boolean)] (wM ad cI cZ) E0 yX7_byteAt wsX7_byteAt ({ frames := 0, cells := 0, slots := 0, locals := 0 } : Room) [.ref (ad 0), .int p1] u (pX7_byteAt F p1 u) := by
  refine ctI_of (own := RX7) (cc := cX7_byteAt) (n := 2) (ret := (some .int)) (by decide) rfl rfl (Nat.le_of_ble_eq_true rfl) (lv := [(0, .ref (ad 0)), (1, .int p1)]) rfl (fun C => ?_)
  have iX7 : ∀ w ∈ wsX70, w ∈ wsX7_byteAt := fun w h => List.mem_cons_of_mem _ (List.mem_append_right _ (inlX7 w h))
  rw [pX7_byteAt]
  refine g_iload_n C 0 1 dX7_byteAt_0 rfl ?_
  refine g_aload_n C 1 0 dX7_byteAt_1 rfl ?_
  refine gfM_X7_taped C 2 iX7 (List.mem_cons_of_mem _ (List.mem_append_right _ wgL_6_20.1)) dX7_byteAt_2 ?_
  refine g_icmp_ge C 5 17 dX7_byteAt_5 (by decide) ?_ ?_
  · skip
    refine g_bipush C 17 (-4) dX7_byteAt_17 rfl ?_
    exact g_iret C 19 dX7_byteAt_19
  · skip
    refine g_aload_n C 8 0 dX7_byteAt_8 rfl ?_
    refine gfM_X7_tape C 9 iX7 (List.mem_cons_of_mem _ (List.mem_append_right _ wgL_5_17.1)) dX7_byteAt_9 ?_
    refine g_iload_n C 12 1 dX7_byteAt_12 rfl ?_
    refine g_iald C 13 (1 + 3) 0 (wM_arr 3 (by decide)) rfl dX7_byteAt_13 ?_
    refine g_goto C 14 19 dX7_byteAt_14 (by decide) ?_
    exact g_iret C 19 dX7_byteAt_19
def pX7_fails (F : Nat) (p1 : Int32) (u : St) : Option (Unit × St) :=
  if (u.1 9) = 0 then vl (stf u 9 p1) (fun (u1 : St) => vl (stf u1 10 (u1.1 12)) (fun (u2 : St) => some ((), u2))) else some ((), u)
set_option maxRecDepth 100000 in
set_option maxHeartbeats 4000000 in
theorem tX7_fails {l : Launch} {D : va_G} {cI cZ : ClassId} {ad : Nat → Nat} (F : Nat) (p1 : Int32) (u : St) : CtV l D [(cI, .int), (cZ, .boolean)] (wM ad cI cZ) E0 yX7_fails wsX7_fails ({ frames := 0, cells := 0, slots := 0, locals := 0 } : Room) [.ref (ad 0), .int p1] u (pX7_fails F p1 u) := by
  refine ctV_of (own := RX7) (cc := cX7_fails) (n := 2) (ret := none) (by decide) rfl rfl (Nat.le_of_ble_eq_true rfl) (lv := [(0, .ref (ad 0)), (1, .int p1)]) rfl (fun C => ?_)
  have iX7 : ∀ w ∈ wsX70, w ∈ wsX7_fails := fun w h => List.mem_cons_of_mem _ (List.mem_append_right _ (inlX7 w h))
  rw [pX7_fails]
  refine g_aload_n C 0 0 dX7_fails_0 rfl ?_
  refine gfM_X7_broken C 1 iX7 (List.mem_cons_of_mem _ (List.mem_append_right _ wgL_15_6.1)) dX7_fails_1 ?_
  refine g_if_ne C 4 20 dX7_fails_4 (by decide) ?_ ?_
  · skip
    exact g_vret C 20 dX7_fails_20
  · skip
    refine g_aload_n C 7 0 dX7_fails_7 rfl ?_
    refine g_iload_n C 8 1 dX7_fails_8 rfl ?_
    refine pfM_X7_broken C 9 iX7 (List.mem_cons_of_mem _ (List.mem_append_right _ wgL_15_6.1)) dX7_fails_9 (fun u1 => ?_)
    refine g_aload_n C 12 0 dX7_fails_12 rfl ?_
    refine g_aload_n C 13 0 dX7_fails_13 rfl ?_
    refine gfM_X7_here C 14 iX7 (List.mem_cons_of_mem _ (List.mem_append_right _ wgL_15_23.1)) dX7_fails_14 ?_
    refine pfM_X7_brokenAt C 17 iX7 (List.mem_cons_of_mem _ (List.mem_append_right _ wgL_15_15.1)) dX7_fails_17 (fun u2 => ?_)
    exact g_vret C 20 dX7_fails_20
def jX7_nameHere_106 (F : Nat) (x1 : Int32) (self3 : Int32 → St → Option (Int32 × St)) (a6 : Int32) (u7 : St) : Option (Int32 × St) :=
  if a6 = 0 then (self3 (x1 + 1) u7) else some (x1, u7)
def bX7_nameHere_51 (F : Nat) (x1 : Int32) (J106 : Int32 → St → Option (Int32 × St)) (self11 : Int32 → Int32 → St → Option (Int32 × St)) (x8 : Int32) (x9 : Int32) (u10 : St) : Option (Int32 × St) :=
  if x8 = 0 then (J106 x8 u10) else if ((u10.1 11) - (u10.1 12)) ≤ x9 then (J106 x8 u10) else bd (pX7_byteAt F ((u10.1 12) + x9) u10) (fun (r13 : Int32) (u12 : St) => gd (inb x1 12) (gd (inb ((u12.2 4 (Int32.toNatClampNeg x1)) + x9) 53) (jn (fun (a14 : Int32) (u15 : St) => (self11 a14 (x9 + 1) u15)) (fun (J99 : Int32 → St → Option (Int32 × St)) => if r13 = (u12.2 5 (Int32.toNatClampNeg ((u12.2 4 (Int32.toNatClampNeg x1)) + x9))) then (J99 1 u12) else (J99 0 u12)))))
def bX7_nameHere_2 (F : Nat)  (self3 : Int32 → St → Option (Int32 × St)) (x1 : Int32) (u2 : St) : Option (Int32 × St) :=
  if 11 ≤ x1 then some ((-4), u2) else if (u2.1 13) = 1 then gd (inb (x1 + 1) 12) (gd (inb x1 12) (jn (fun (a4 : Int32) (u5 : St) => jn (jX7_nameHere_106 F x1 self3) (fun (J106 : Int32 → St → Option (Int32 × St)) => (lq2 (bX7_nameHere_51 F x1 J106) F a4 0 u5))) (fun (J48 : Int32 → St → Option (Int32 × St)) => if ((u2.1 11) - (u2.1 12)) = ((u2.2 4 (Int32.toNatClampNeg (x1 + 1))) - (u2.2 4 (Int32.toNatClampNeg x1))) then (J48 1 u2) else (J48 0 u2)))) else some ((-4), u2)
def pX7_nameHere (F : Nat)  (u : St) : Option (Int32 × St) :=
  (lq1 (bX7_nameHere_2 F) F 0 u)
set_option maxRecDepth 100000 in
set_option maxHeartbeats 4000000 in
theorem tX7_nameHere {l : Launch} {D : va_G} {cI cZ : ClassId} {ad : Nat → Nat} (F : Nat)  (u : St) : CtI l D [(cI, .int), (cZ, .boolean)] (wM ad cI cZ) E0 yX7_nameHere wsX7_nameHere ({ frames := 1, cells := 0, slots := 0, locals := 21 } : Room) [.ref (ad 0)] u (pX7_nameHere F u) := by
  refine ctI_of (own := RX7) (cc := cX7_nameHere) (n := 4) (ret := (some .int)) (by decide) rfl rfl (Nat.le_of_ble_eq_true rfl) (lv := [(0, .ref (ad 0))]) rfl (fun C => ?_)
  have iX7 : ∀ w ∈ wsX70, w ∈ wsX7_nameHere := fun w h => List.mem_cons_of_mem _ (List.mem_append_right _ (inlX7 w h))
  rw [pX7_nameHere]
  refine g_iconst C 0 0 dX7_nameHere_0 rfl ?_
  refine g_istore_n C 1 [(1, .int 0), (0, .ref (ad 0))] dX7_nameHere_1 (by decide) rfl ?_
  refine g_sub _ [1, 0] rfl ?_
  refine g_lq1 (fun (x1 : Int32) => [(0, .ref (ad 0)), (1, .int x1)]) (fun self3 hself3 x1 u2 => ?_) F 0 u
  rw [bX7_nameHere_2]
  refine g_iload_n C 2 1 dX7_nameHere_2 rfl ?_
  refine g_bipush C 3 11 dX7_nameHere_3 rfl ?_
  refine g_icmp_ge C 5 118 dX7_nameHere_5 (by decide) ?_ ?_
  · skip
    refine g_bipush C 118 (-4) dX7_nameHere_118 rfl ?_
    exact g_iret C 120 dX7_nameHere_120
  · skip
    refine g_aload_n C 8 0 dX7_nameHere_8 rfl ?_
    refine gfM_X7_token C 9 iX7 (List.mem_cons_of_mem _ (List.mem_append_right _ wgL_15_13.1)) dX7_nameHere_9 ?_
    refine g_iconst C 12 1 dX7_nameHere_12 rfl ?_
    refine g_icmp_ne C 13 118 dX7_nameHere_13 (by decide) ?_ ?_
    · skip
      refine g_bipush C 118 (-4) dX7_nameHere_118 rfl ?_
      exact g_iret C 120 dX7_nameHere_120
    · skip
      refine g_aload_n C 16 0 dX7_nameHere_16 rfl ?_
      refine gfM_X7_spot C 17 iX7 (List.mem_cons_of_mem _ (List.mem_append_right _ wgL_15_7.1)) dX7_nameHere_17 ?_
      refine g_aload_n C 20 0 dX7_nameHere_20 rfl ?_
      refine gfM_X7_here C 21 iX7 (List.mem_cons_of_mem _ (List.mem_append_right _ wgL_15_23.1)) dX7_nameHere_21 ?_
      refine g_isub C 24 dX7_nameHere_24 ?_
      refine g_aload_n C 25 0 dX7_nameHere_25 rfl ?_
      refine gfM_X7_cuts C 26 iX7 (List.mem_cons_of_mem _ (List.mem_append_right _ wgL_5_18.1)) dX7_nameHere_26 ?_
      refine g_iload_n C 29 1 dX7_nameHere_29 rfl ?_
      refine g_iconst C 30 1 dX7_nameHere_30 rfl ?_
      refine g_iadd C 31 dX7_nameHere_31 ?_
      refine g_iald C 32 (1 + 4) 0 (wM_arr 4 (by decide)) rfl dX7_nameHere_32 ?_
      refine g_aload_n C 33 0 dX7_nameHere_33 rfl ?_
      refine gfM_X7_cuts C 34 iX7 (List.mem_cons_of_mem _ (List.mem_append_right _ wgL_5_18.1)) dX7_nameHere_34 ?_
      refine g_iload_n C 37 1 dX7_nameHere_37 rfl ?_
      refine g_iald C 38 (1 + 4) 0 (wM_arr 4 (by decide)) rfl dX7_nameHere_38 ?_
      refine g_isub C 39 dX7_nameHere_39 ?_
      refine g_jn1 48 (fun (a4 : Int32) => [(0, .ref (ad 0)), (1, .int x1)]) (fun (a4 : Int32) => [.int a4]) (fun a4 u5 => ?_) (fun J48 hJ48 => ?_)
      · skip
        refine g_istore_n C 48 [(2, .int a4), (0, .ref (ad 0)), (1, .int x1)] dX7_nameHere_48 (by decide) rfl ?_
        refine g_iconst C 49 0 dX7_nameHere_49 rfl ?_
        refine g_istore_n C 50 [(3, .int 0), (2, .int a4), (0, .ref (ad 0)), (1, .int x1)] dX7_nameHere_50 (by decide) rfl ?_
        refine g_jn1 106 (fun (a6 : Int32) => [(0, .ref (ad 0)), (1, .int x1), (2, .int a6)]) (fun (a6 : Int32) => []) (fun a6 u7 => ?_) (fun J106 hJ106 => ?_)
        · skip
          rw [jX7_nameHere_106]
          refine g_iload_n C 106 2 dX7_nameHere_106 rfl ?_
          refine g_if_eq C 107 112 dX7_nameHere_107 (by decide) ?_ ?_
          · skip
            refine g_iinc C 112 1 [(1, .int (x1 + 1)), (0, .ref (ad 0)), (2, .int a6)] dX7_nameHere_112 rfl rfl (by decide) rfl ?_
            refine g_goto C 115 2 dX7_nameHere_115 (by decide) ?_
            exact g_sub _ [1, 0] rfl (hself3 (x1 + 1) u7)
          · skip
            refine g_iload_n C 110 1 dX7_nameHere_110 rfl ?_
            exact g_iret C 111 dX7_nameHere_111
        · skip
          refine g_sub _ [2, 3, 1, 0] rfl ?_
          refine g_lq2 (fun (x8 : Int32) (x9 : Int32) => [(0, .ref (ad 0)), (1, .int x1), (2, .int x8), (3, .int x9)]) (fun self11 hself11 x8 x9 u10 => ?_) F a4 0 u5
          rw [bX7_nameHere_51]
          refine g_iload_n C 51 2 dX7_nameHere_51 rfl ?_
          refine g_if_eq C 52 106 dX7_nameHere_52 (by decide) ?_ ?_
          · skip
            exact g_sub _ [0, 1, 2] rfl (hJ106 x8 u10)
          · skip
            refine g_iload_n C 55 3 dX7_nameHere_55 rfl ?_
            refine g_aload_n C 56 0 dX7_nameHere_56 rfl ?_
            refine gfM_X7_spot C 57 iX7 (List.mem_cons_of_mem _ (List.mem_append_right _ wgL_15_7.1)) dX7_nameHere_57 ?_
            refine g_aload_n C 60 0 dX7_nameHere_60 rfl ?_
            refine gfM_X7_here C 61 iX7 (List.mem_cons_of_mem _ (List.mem_append_right _ wgL_15_23.1)) dX7_nameHere_61 ?_
            refine g_isub C 64 dX7_nameHere_64 ?_
            refine g_icmp_ge C 65 106 dX7_nameHere_65 (by decide) ?_ ?_
            · skip
              exact g_sub _ [0, 1, 2] rfl (hJ106 x8 u10)
            · skip
              refine g_aload_n C 68 0 dX7_nameHere_68 rfl ?_
              refine g_aload_n C 69 0 dX7_nameHere_69 rfl ?_
              refine gfM_X7_here C 70 iX7 (List.mem_cons_of_mem _ (List.mem_append_right _ wgL_15_23.1)) dX7_nameHere_70 ?_
              refine g_iload_n C 73 3 dX7_nameHere_73 rfl ?_
              refine g_iadd C 74 dX7_nameHere_74 ?_
              refine g_callVi (st := []) (As := [.int ((u10.1 12) + x9)]) C E0_ok E0_vm 75 0 1 (tX7_byteAt F ((u10.1 12) + x9) u10) rfl gX7_nameHere_X7_byteAt rfl rfl rfl (by decide +kernel) ⟨Nat.le_of_ble_eq_true rfl, Nat.le_of_ble_eq_true rfl⟩ rfl rfl rfl (Nat.le_of_ble_eq_true rfl) dX7_nameHere_75 (fun r13 u12 => ?_)
              refine g_aload_n C 78 0 dX7_nameHere_78 rfl ?_
              refine gfM_X7_letters C 79 iX7 (List.mem_cons_of_mem _ (List.mem_append_right _ wgL_5_19.1)) dX7_nameHere_79 ?_
              refine g_aload_n C 82 0 dX7_nameHere_82 rfl ?_
              refine gfM_X7_cuts C 83 iX7 (List.mem_cons_of_mem _ (List.mem_append_right _ wgL_5_18.1)) dX7_nameHere_83 ?_
              refine g_iload_n C 86 1 dX7_nameHere_86 rfl ?_
              refine g_iald C 87 (1 + 4) 0 (wM_arr 4 (by decide)) rfl dX7_nameHere_87 ?_
              refine g_iload_n C 88 3 dX7_nameHere_88 rfl ?_
              refine g_iadd C 89 dX7_nameHere_89 ?_
              refine g_iald C 90 (1 + 5) 0 (wM_arr 5 (by decide)) rfl dX7_nameHere_90 ?_
              refine g_jn1 99 (fun (a14 : Int32) => [(0, .ref (ad 0)), (1, .int x1), (3, .int x9)]) (fun (a14 : Int32) => [.int a14]) (fun a14 u15 => ?_) (fun J99 hJ99 => ?_)
              · skip
                refine g_istore_n C 99 [(2, .int a14), (0, .ref (ad 0)), (1, .int x1), (3, .int x9)] dX7_nameHere_99 (by decide) rfl ?_
                refine g_iinc C 100 3 [(3, .int (x9 + 1)), (2, .int a14), (0, .ref (ad 0)), (1, .int x1)] dX7_nameHere_100 rfl rfl (by decide) rfl ?_
                refine g_goto C 103 51 dX7_nameHere_103 (by decide) ?_
                exact g_sub _ [2, 3, 1, 0] rfl (hself11 a14 (x9 + 1) u15)
              · skip
                refine g_icmp_ne C 91 98 dX7_nameHere_91 (by decide) ?_ ?_
                · skip
                  refine g_iconst C 98 0 dX7_nameHere_98 rfl ?_
                  exact g_sub _ [0, 1, 3] rfl (hJ99 0 u12)
                · skip
                  refine g_iconst C 94 1 dX7_nameHere_94 rfl ?_
                  refine g_goto C 95 99 dX7_nameHere_95 (by decide) ?_
                  exact g_sub _ [0, 1, 3] rfl (hJ99 1 u12)
      · skip
        refine g_icmp_ne C 40 47 dX7_nameHere_40 (by decide) ?_ ?_
        · skip
          refine g_iconst C 47 0 dX7_nameHere_47 rfl ?_
          exact g_sub _ [0, 1] rfl (hJ48 0 u2)
        · skip
          refine g_iconst C 43 1 dX7_nameHere_43 rfl ?_
          refine g_goto C 44 48 dX7_nameHere_44 (by decide) ?_
          exact g_sub _ [0, 1] rfl (hJ48 1 u2)
def jX7_step_217 (F : Nat)   (u13 : St) : Option (Unit × St) :=
  vl (stf u13 13 2) (fun (u14 : St) => if ((u14.1 11) - (u14.1 12)) ≤ 2 then some ((), u14) else bd (pX7_fails F 1 u14) (fun (_ : Unit) (u15 : St) => some ((), u15)))
def bX7_step_140 (F : Nat) (J217 : St → Option (Unit × St)) (self17 : St → Option (Unit × St))  (u16 : St) : Option (Unit × St) :=
  bd (pX7_byteAt F (u16.1 11) u16) (fun (r19 : Int32) (u18 : St) => bd (pX7_in F (Int32.toInt64 r19) 48 57 u18) (fun (r21 : Int32) (u20 : St) => if r21 = 0 then (J217 u20) else jn (fun (a22 : Int32) (u23 : St) => vl (stf u23 14 a22) (fun (u24 : St) => vl (stf u24 11 ((u24.1 11) + 1)) (fun (u25 : St) => (self17 u25)))) (fun (J201 : Int32 → St → Option (Unit × St)) => if 2 ≤ ((u20.1 11) - (u20.1 12)) then (J201 (u20.1 14) u20) else bd (pX7_byteAt F (u20.1 11) u20) (fun (r27 : Int32) (u26 : St) => (J201 (((10 * (u20.1 14)) + r27) - 48) u26)))))
def jX7_step_118 (F : Nat)   (u28 : St) : Option (Unit × St) :=
  vl (stf u28 13 1) (fun (u29 : St) => some ((), u29))
def bX7_step_84 (F : Nat) (J118 : St → Option (Unit × St)) (self31 : St → Option (Unit × St))  (u30 : St) : Option (Unit × St) :=
  bd (pX7_byteAt F (u30.1 11) u30) (fun (r33 : Int32) (u32 : St) => bd (pX7_in F (Int32.toInt64 r33) 97 122 u32) (fun (r35 : Int32) (u34 : St) => if r35 = 0 then (J118 u34) else vl (stf u34 11 ((u34.1 11) + 1)) (fun (u36 : St) => (self31 u36))))
def jX7_step_34 (F : Nat)   (u1 : St) : Option (Unit × St) :=
  vl (stf u1 12 (u1.1 11)) (fun (u2 : St) => bd (pX7_byteAt F (u2.1 11) u2) (fun (r4 : Int32) (u3 : St) => vl (stf u3 14 0) (fun (u5 : St) => if r4 = (-4) then vl (stf u5 13 0) (fun (u37 : St) => some ((), u37)) else bd (pX7_in F (Int32.toInt64 r4) 97 122 u5) (fun (r7 : Int32) (u6 : St) => if r7 = 0 then bd (pX7_in F (Int32.toInt64 r4) 48 57 u6) (fun (r9 : Int32) (u8 : St) => if r9 = 0 then vl (stf u8 13 3) (fun (u10 : St) => vl (stf u10 11 ((u10.1 11) + 1)) (fun (u11 : St) => if r4 = 59 then some ((), u11) else bd (pX7_fails F 1 u11) (fun (_ : Unit) (u12 : St) => some ((), u12)))) else jn (jX7_step_217 F) (fun (J217 : St → Option (Unit × St)) => (lp0 (bX7_step_140 F J217) F u8))) else jn (jX7_step_118 F) (fun (J118 : St → Option (Unit × St)) => (lp0 (bX7_step_84 F J118) F u6))))))
def bX7_step_8 (F : Nat) (J34 : St → Option (Unit × St)) (self39 : St → Option (Unit × St))  (u38 : St) : Option (Unit × St) :=
  bd (pX7_byteAt F (u38.1 11) u38) (fun (r41 : Int32) (u40 : St) => if r41 = 32 then vl (stf u40 11 ((u40.1 11) + 1)) (fun (u42 : St) => (self39 u42)) else (J34 u40))
def pX7_step (F : Nat)  (u : St) : Option (Unit × St) :=
  if (u.1 9) ≤ 0 then jn (jX7_step_34 F) (fun (J34 : St → Option (Unit × St)) => (lp0 (bX7_step_8 F J34) F u)) else some ((), u)
set_option maxRecDepth 100000 in
set_option maxHeartbeats 4000000 in
theorem tX7_step {l : Launch} {D : va_G} {cI cZ : ClassId} {ad : Nat → Nat} (F : Nat)  (u : St) : CtV l D [(cI, .int), (cZ, .boolean)] (wM ad cI cZ) E0 yX7_step wsX7_step ({ frames := 1, cells := 0, slots := 0, locals := 25 } : Room) [.ref (ad 0)] u (pX7_step F u) := by
  refine ctV_of (own := RX7) (cc := cX7_step) (n := 2) (ret := none) (by decide) rfl rfl (Nat.le_of_ble_eq_true rfl) (lv := [(0, .ref (ad 0))]) rfl (fun C => ?_)
  have iX7 : ∀ w ∈ wsX70, w ∈ wsX7_step := fun w h => List.mem_cons_of_mem _ (List.mem_append_right _ (inlX7 w h))
  rw [pX7_step]
  refine g_aload_n C 0 0 dX7_step_0 rfl ?_
  refine gfM_X7_broken C 1 iX7 (List.mem_cons_of_mem _ (List.mem_append_right _ wgL_15_6.1)) dX7_step_1 ?_
  refine g_if_le C 4 8 dX7_step_4 (by decide) ?_ ?_
  · skip
    refine g_jn0 34 ([(0, .ref (ad 0))]) ([]) (fun u1 => ?_) (fun J34 hJ34 => ?_)
    · skip
      rw [jX7_step_34]
      refine g_aload_n C 34 0 dX7_step_34 rfl ?_
      refine g_aload_n C 35 0 dX7_step_35 rfl ?_
      refine gfM_X7_spot C 36 iX7 (List.mem_cons_of_mem _ (List.mem_append_right _ wgL_15_7.1)) dX7_step_36 ?_
      refine pfM_X7_here C 39 iX7 (List.mem_cons_of_mem _ (List.mem_append_right _ wgL_15_23.1)) dX7_step_39 (fun u2 => ?_)
      refine g_aload_n C 42 0 dX7_step_42 rfl ?_
      refine g_aload_n C 43 0 dX7_step_43 rfl ?_
      refine gfM_X7_spot C 44 iX7 (List.mem_cons_of_mem _ (List.mem_append_right _ wgL_15_7.1)) dX7_step_44 ?_
      refine g_callVi (st := []) (As := [.int (u2.1 11)]) C E0_ok E0_vm 47 0 1 (tX7_byteAt F (u2.1 11) u2) rfl gX7_step_X7_byteAt rfl rfl rfl (by decide +kernel) ⟨Nat.le_of_ble_eq_true rfl, Nat.le_of_ble_eq_true rfl⟩ rfl rfl rfl (Nat.le_of_ble_eq_true rfl) dX7_step_47 (fun r4 u3 => ?_)
      refine g_istore_n C 50 [(1, .int r4), (0, .ref (ad 0))] dX7_step_50 (by decide) rfl ?_
      refine g_aload_n C 51 1 dX7_step_51 rfl ?_
      refine g_iconst C 52 0 dX7_step_52 rfl ?_
      refine pfM_X7_value C 53 iX7 (List.mem_cons_of_mem _ (List.mem_append_right _ wgL_16_0.1)) dX7_step_53 (fun u5 => ?_)
      refine g_iload_n C 56 0 dX7_step_56 rfl ?_
      refine g_bipush C 57 (-4) dX7_step_57 rfl ?_
      refine g_icmp_ne C 59 70 dX7_step_59 (by decide) ?_ ?_
      · skip
        refine g_iload_n C 70 0 dX7_step_70 rfl ?_
        refine g_i2l C 71 dX7_step_71 ?_
        refine g_ldc2 C 72 97 (by decide +kernel) dX7_step_72 ?_
        refine g_ldc2 C 75 122 (by decide +kernel) dX7_step_75 ?_
        refine g_callSi (st := []) (As := [.long (Int32.toInt64 r4), .long 97, .long 122]) C E0_ok E0_vm 78 3 (tX7_in F (Int32.toInt64 r4) 97 122 u5) rfl gX7_step_X7_in rfl rfl rfl (by decide +kernel) ⟨Nat.le_of_ble_eq_true rfl, Nat.le_of_ble_eq_true rfl⟩ rfl (Nat.le_of_ble_eq_true rfl) dX7_step_78 (fun r7 u6 => ?_)
        refine g_if_eq C 81 126 dX7_step_81 (by decide) ?_ ?_
        · skip
          refine g_iload_n C 126 0 dX7_step_126 rfl ?_
          refine g_i2l C 127 dX7_step_127 ?_
          refine g_ldc2 C 128 48 (by decide +kernel) dX7_step_128 ?_
          refine g_ldc2 C 131 57 (by decide +kernel) dX7_step_131 ?_
          refine g_callSi (st := []) (As := [.long (Int32.toInt64 r4), .long 48, .long 57]) C E0_ok E0_vm 134 3 (tX7_in F (Int32.toInt64 r4) 48 57 u6) rfl gX7_step_X7_in rfl rfl rfl (by decide +kernel) ⟨Nat.le_of_ble_eq_true rfl, Nat.le_of_ble_eq_true rfl⟩ rfl (Nat.le_of_ble_eq_true rfl) dX7_step_134 (fun r9 u8 => ?_)
          refine g_if_eq C 137 243 dX7_step_137 (by decide) ?_ ?_
          · skip
            refine g_aload_n C 243 1 dX7_step_243 rfl ?_
            refine g_iconst C 244 3 dX7_step_244 rfl ?_
            refine pfM_X7_token C 245 iX7 (List.mem_cons_of_mem _ (List.mem_append_right _ wgL_15_13.1)) dX7_step_245 (fun u10 => ?_)
            refine g_aload_n C 248 1 dX7_step_248 rfl ?_
            refine g_dup C 249 dX7_step_249 rfl ?_
            refine gfM_X7_spot C 250 iX7 (List.mem_cons_of_mem _ (List.mem_append_right _ wgL_15_7.1)) dX7_step_250 ?_
            refine g_iconst C 253 1 dX7_step_253 rfl ?_
            refine g_iadd C 254 dX7_step_254 ?_
            refine pfM_X7_spot C 255 iX7 (List.mem_cons_of_mem _ (List.mem_append_right _ wgL_15_7.1)) dX7_step_255 (fun u11 => ?_)
            refine g_iload_n C 258 0 dX7_step_258 rfl ?_
            refine g_bipush C 259 59 dX7_step_259 rfl ?_
            refine g_icmp_eq C 261 269 dX7_step_261 (by decide) ?_ ?_
            · skip
              exact g_vret C 269 dX7_step_269
            · skip
              refine g_aload_n C 264 1 dX7_step_264 rfl ?_
              refine g_iconst C 265 1 dX7_step_265 rfl ?_
              refine g_callVv (st := []) (As := [.int 1]) C E0_ok E0_vm 266 0 1 (tX7_fails F 1 u11) rfl gX7_step_X7_fails rfl rfl rfl (by decide +kernel) ⟨Nat.le_of_ble_eq_true rfl, Nat.le_of_ble_eq_true rfl⟩ rfl rfl rfl (Nat.le_of_ble_eq_true rfl) dX7_step_266 (fun u12 => ?_)
              exact g_vret C 269 dX7_step_269
          · skip
            refine g_jn0 217 ([(0, .ref (ad 0))]) ([]) (fun u13 => ?_) (fun J217 hJ217 => ?_)
            · skip
              rw [jX7_step_217]
              refine g_aload_n C 217 0 dX7_step_217 rfl ?_
              refine g_iconst C 218 2 dX7_step_218 rfl ?_
              refine pfM_X7_token C 219 iX7 (List.mem_cons_of_mem _ (List.mem_append_right _ wgL_15_13.1)) dX7_step_219 (fun u14 => ?_)
              refine g_aload_n C 222 0 dX7_step_222 rfl ?_
              refine gfM_X7_spot C 223 iX7 (List.mem_cons_of_mem _ (List.mem_append_right _ wgL_15_7.1)) dX7_step_223 ?_
              refine g_aload_n C 226 0 dX7_step_226 rfl ?_
              refine gfM_X7_here C 227 iX7 (List.mem_cons_of_mem _ (List.mem_append_right _ wgL_15_23.1)) dX7_step_227 ?_
              refine g_isub C 230 dX7_step_230 ?_
              refine g_iconst C 231 2 dX7_step_231 rfl ?_
              refine g_icmp_le C 232 269 dX7_step_232 (by decide) ?_ ?_
              · skip
                exact g_vret C 269 dX7_step_269
              · skip
                refine g_aload_n C 235 0 dX7_step_235 rfl ?_
                refine g_iconst C 236 1 dX7_step_236 rfl ?_
                refine g_callVv (st := []) (As := [.int 1]) C E0_ok E0_vm 237 0 1 (tX7_fails F 1 u14) rfl gX7_step_X7_fails rfl rfl rfl (by decide +kernel) ⟨Nat.le_of_ble_eq_true rfl, Nat.le_of_ble_eq_true rfl⟩ rfl rfl rfl (Nat.le_of_ble_eq_true rfl) dX7_step_237 (fun u15 => ?_)
                refine g_goto C 240 269 dX7_step_240 (by decide) ?_
                exact g_vret C 269 dX7_step_269
            · skip
              refine g_sub _ [1] rfl ?_
              refine g_lp0 (fun self17 hself17 u16 => ?_) F u8
              rw [bX7_step_140]
              refine g_aload_n C 140 0 dX7_step_140 rfl ?_
              refine g_aload_n C 141 0 dX7_step_141 rfl ?_
              refine gfM_X7_spot C 142 iX7 (List.mem_cons_of_mem _ (List.mem_append_right _ wgL_15_7.1)) dX7_step_142 ?_
              refine g_callVi (st := []) (As := [.int (u16.1 11)]) C E0_ok E0_vm 145 0 1 (tX7_byteAt F (u16.1 11) u16) rfl gX7_step_X7_byteAt rfl rfl rfl (by decide +kernel) ⟨Nat.le_of_ble_eq_true rfl, Nat.le_of_ble_eq_true rfl⟩ rfl rfl rfl (Nat.le_of_ble_eq_true rfl) dX7_step_145 (fun r19 u18 => ?_)
              refine g_i2l C 148 dX7_step_148 ?_
              refine g_ldc2 C 149 48 (by decide +kernel) dX7_step_149 ?_
              refine g_ldc2 C 152 57 (by decide +kernel) dX7_step_152 ?_
              refine g_callSi (st := []) (As := [.long (Int32.toInt64 r19), .long 48, .long 57]) C E0_ok E0_vm 155 3 (tX7_in F (Int32.toInt64 r19) 48 57 u18) rfl gX7_step_X7_in rfl rfl rfl (by decide +kernel) ⟨Nat.le_of_ble_eq_true rfl, Nat.le_of_ble_eq_true rfl⟩ rfl (Nat.le_of_ble_eq_true rfl) dX7_step_155 (fun r21 u20 => ?_)
              refine g_if_eq C 158 217 dX7_step_158 (by decide) ?_ ?_
              · skip
                exact g_sub _ [0] rfl (hJ217 u20)
              · skip
                refine g_aload_n C 161 0 dX7_step_161 rfl ?_
                refine g_aload_n C 162 0 dX7_step_162 rfl ?_
                refine gfM_X7_spot C 163 iX7 (List.mem_cons_of_mem _ (List.mem_append_right _ wgL_15_7.1)) dX7_step_163 ?_
                refine g_aload_n C 166 0 dX7_step_166 rfl ?_
                refine gfM_X7_here C 167 iX7 (List.mem_cons_of_mem _ (List.mem_append_right _ wgL_15_23.1)) dX7_step_167 ?_
                refine g_isub C 170 dX7_step_170 ?_
                refine g_iconst C 171 2 dX7_step_171 rfl ?_
                refine g_jn1 201 (fun (a22 : Int32) => [(0, .ref (ad 0))]) (fun (a22 : Int32) => [.int a22, .ref (ad 0)]) (fun a22 u23 => ?_) (fun J201 hJ201 => ?_)
                · skip
                  refine pfM_X7_value C 201 iX7 (List.mem_cons_of_mem _ (List.mem_append_right _ wgL_16_0.1)) dX7_step_201 (fun u24 => ?_)
                  refine g_aload_n C 204 0 dX7_step_204 rfl ?_
                  refine g_dup C 205 dX7_step_205 rfl ?_
                  refine gfM_X7_spot C 206 iX7 (List.mem_cons_of_mem _ (List.mem_append_right _ wgL_15_7.1)) dX7_step_206 ?_
                  refine g_iconst C 209 1 dX7_step_209 rfl ?_
                  refine g_iadd C 210 dX7_step_210 ?_
                  refine pfM_X7_spot C 211 iX7 (List.mem_cons_of_mem _ (List.mem_append_right _ wgL_15_7.1)) dX7_step_211 (fun u25 => ?_)
                  refine g_goto C 214 140 dX7_step_214 (by decide) ?_
                  exact g_sub _ [0] rfl (hself17 u25)
                · skip
                  refine g_icmp_ge C 172 197 dX7_step_172 (by decide) ?_ ?_
                  · skip
                    refine g_aload_n C 197 0 dX7_step_197 rfl ?_
                    refine gfM_X7_value C 198 iX7 (List.mem_cons_of_mem _ (List.mem_append_right _ wgL_16_0.1)) dX7_step_198 ?_
                    exact g_sub _ [0] rfl (hJ201 (u20.1 14) u20)
                  · skip
                    refine g_bipush C 175 10 dX7_step_175 rfl ?_
                    refine g_aload_n C 177 0 dX7_step_177 rfl ?_
                    refine gfM_X7_value C 178 iX7 (List.mem_cons_of_mem _ (List.mem_append_right _ wgL_16_0.1)) dX7_step_178 ?_
                    refine g_imul C 181 dX7_step_181 ?_
                    refine g_aload_n C 182 0 dX7_step_182 rfl ?_
                    refine g_aload_n C 183 0 dX7_step_183 rfl ?_
                    refine gfM_X7_spot C 184 iX7 (List.mem_cons_of_mem _ (List.mem_append_right _ wgL_15_7.1)) dX7_step_184 ?_
                    refine g_callVi (st := [.int (10 * (u20.1 14)), .ref (ad 0)]) (As := [.int (u20.1 11)]) C E0_ok E0_vm 187 0 1 (tX7_byteAt F (u20.1 11) u20) rfl gX7_step_X7_byteAt rfl rfl rfl (by decide +kernel) ⟨Nat.le_of_ble_eq_true rfl, Nat.le_of_ble_eq_true rfl⟩ rfl rfl rfl (Nat.le_of_ble_eq_true rfl) dX7_step_187 (fun r27 u26 => ?_)
                    refine g_iadd C 190 dX7_step_190 ?_
                    refine g_bipush C 191 48 dX7_step_191 rfl ?_
                    refine g_isub C 193 dX7_step_193 ?_
                    refine g_goto C 194 201 dX7_step_194 (by decide) ?_
                    exact g_sub _ [0] rfl (hJ201 (((10 * (u20.1 14)) + r27) - 48) u26)
        · skip
          refine g_jn0 118 ([(0, .ref (ad 0))]) ([]) (fun u28 => ?_) (fun J118 hJ118 => ?_)
          · skip
            rw [jX7_step_118]
            refine g_aload_n C 118 0 dX7_step_118 rfl ?_
            refine g_iconst C 119 1 dX7_step_119 rfl ?_
            refine pfM_X7_token C 120 iX7 (List.mem_cons_of_mem _ (List.mem_append_right _ wgL_15_13.1)) dX7_step_120 (fun u29 => ?_)
            refine g_goto C 123 269 dX7_step_123 (by decide) ?_
            exact g_vret C 269 dX7_step_269
          · skip
            refine g_sub _ [1] rfl ?_
            refine g_lp0 (fun self31 hself31 u30 => ?_) F u6
            rw [bX7_step_84]
            refine g_aload_n C 84 0 dX7_step_84 rfl ?_
            refine g_aload_n C 85 0 dX7_step_85 rfl ?_
            refine gfM_X7_spot C 86 iX7 (List.mem_cons_of_mem _ (List.mem_append_right _ wgL_15_7.1)) dX7_step_86 ?_
            refine g_callVi (st := []) (As := [.int (u30.1 11)]) C E0_ok E0_vm 89 0 1 (tX7_byteAt F (u30.1 11) u30) rfl gX7_step_X7_byteAt rfl rfl rfl (by decide +kernel) ⟨Nat.le_of_ble_eq_true rfl, Nat.le_of_ble_eq_true rfl⟩ rfl rfl rfl (Nat.le_of_ble_eq_true rfl) dX7_step_89 (fun r33 u32 => ?_)
            refine g_i2l C 92 dX7_step_92 ?_
            refine g_ldc2 C 93 97 (by decide +kernel) dX7_step_93 ?_
            refine g_ldc2 C 96 122 (by decide +kernel) dX7_step_96 ?_
            refine g_callSi (st := []) (As := [.long (Int32.toInt64 r33), .long 97, .long 122]) C E0_ok E0_vm 99 3 (tX7_in F (Int32.toInt64 r33) 97 122 u32) rfl gX7_step_X7_in rfl rfl rfl (by decide +kernel) ⟨Nat.le_of_ble_eq_true rfl, Nat.le_of_ble_eq_true rfl⟩ rfl (Nat.le_of_ble_eq_true rfl) dX7_step_99 (fun r35 u34 => ?_)
            refine g_if_eq C 102 118 dX7_step_102 (by decide) ?_ ?_
            · skip
              exact g_sub _ [0] rfl (hJ118 u34)
            · skip
              refine g_aload_n C 105 0 dX7_step_105 rfl ?_
              refine g_dup C 106 dX7_step_106 rfl ?_
              refine gfM_X7_spot C 107 iX7 (List.mem_cons_of_mem _ (List.mem_append_right _ wgL_15_7.1)) dX7_step_107 ?_
              refine g_iconst C 110 1 dX7_step_110 rfl ?_
              refine g_iadd C 111 dX7_step_111 ?_
              refine pfM_X7_spot C 112 iX7 (List.mem_cons_of_mem _ (List.mem_append_right _ wgL_15_7.1)) dX7_step_112 (fun u36 => ?_)
              refine g_goto C 115 84 dX7_step_115 (by decide) ?_
              exact g_sub _ [0] rfl (hself31 u36)
      · skip
        refine g_aload_n C 62 1 dX7_step_62 rfl ?_
        refine g_iconst C 63 0 dX7_step_63 rfl ?_
        refine pfM_X7_token C 64 iX7 (List.mem_cons_of_mem _ (List.mem_append_right _ wgL_15_13.1)) dX7_step_64 (fun u37 => ?_)
        refine g_goto C 67 269 dX7_step_67 (by decide) ?_
        exact g_vret C 269 dX7_step_269
    · skip
      refine g_sub _ [0] rfl ?_
      refine g_lp0 (fun self39 hself39 u38 => ?_) F u
      rw [bX7_step_8]
      refine g_aload_n C 8 0 dX7_step_8 rfl ?_
      refine g_aload_n C 9 0 dX7_step_9 rfl ?_
      refine gfM_X7_spot C 10 iX7 (List.mem_cons_of_mem _ (List.mem_append_right _ wgL_15_7.1)) dX7_step_10 ?_
      refine g_callVi (st := []) (As := [.int (u38.1 11)]) C E0_ok E0_vm 13 0 1 (tX7_byteAt F (u38.1 11) u38) rfl gX7_step_X7_byteAt rfl rfl rfl (by decide +kernel) ⟨Nat.le_of_ble_eq_true rfl, Nat.le_of_ble_eq_true rfl⟩ rfl rfl rfl (Nat.le_of_ble_eq_true rfl) dX7_step_13 (fun r41 u40 => ?_)
      refine g_bipush C 16 32 dX7_step_16 rfl ?_
      refine g_icmp_ne C 18 34 dX7_step_18 (by decide) ?_ ?_
      · skip
        exact g_sub _ [0] rfl (hJ34 u40)
      · skip
        refine g_aload_n C 21 0 dX7_step_21 rfl ?_
        refine g_dup C 22 dX7_step_22 rfl ?_
        refine gfM_X7_spot C 23 iX7 (List.mem_cons_of_mem _ (List.mem_append_right _ wgL_15_7.1)) dX7_step_23 ?_
        refine g_iconst C 26 1 dX7_step_26 rfl ?_
        refine g_iadd C 27 dX7_step_27 ?_
        refine pfM_X7_spot C 28 iX7 (List.mem_cons_of_mem _ (List.mem_append_right _ wgL_15_7.1)) dX7_step_28 (fun u42 => ?_)
        refine g_goto C 31 8 dX7_step_31 (by decide) ?_
        exact g_sub _ [0] rfl (hself39 u42)
  · skip
    exact g_vret C 7 dX7_step_7
def pX7_number (F : Nat) (p1 : Int32) (p2 : Int32) (u : St) : Option (Int32 × St) :=
  jn (fun (u1 : St) => jn (fun (u2 : St) => jn (fun (a3 : Int32) (u4 : St) => bd (pX7_step F u4) (fun (_ : Unit) (u5 : St) => some (a3, u5))) (fun (J62 : Int32 → St → Option (Int32 × St)) => if (u2.1 9) = 0 then (J62 (u2.1 14) u2) else (J62 p1 u2))) (fun (J47 : St → Option (Int32 × St)) => if (u1.1 9) = 0 then bd (pX7_in F (Int32.toInt64 (u1.1 14)) (Int32.toInt64 p1) (Int32.toInt64 p2) u1) (fun (r7 : Int32) (u6 : St) => if r7 = 0 then bd (pX7_fails F 3 u6) (fun (_ : Unit) (u8 : St) => (J47 u8)) else (J47 u6)) else (J47 u1))) (fun (J20 : St → Option (Int32 × St)) => if (u.1 9) = 0 then if (u.1 13) = 2 then (J20 u) else bd (pX7_fails F 2 u) (fun (_ : Unit) (u9 : St) => (J20 u9)) else (J20 u))
set_option maxRecDepth 100000 in
set_option maxHeartbeats 4000000 in
theorem tX7_number {l : Launch} {D : va_G} {cI cZ : ClassId} {ad : Nat → Nat} (F : Nat) (p1 : Int32) (p2 : Int32) (u : St) : CtI l D [(cI, .int), (cZ, .boolean)] (wM ad cI cZ) E0 yX7_number wsX7_number ({ frames := 2, cells := 0, slots := 0, locals := 46 } : Room) [.ref (ad 0), .int p1, .int p2] u (pX7_number F p1 p2 u) := by
  refine ctI_of (own := RX7) (cc := cX7_number) (n := 4) (ret := (some .int)) (by decide) rfl rfl (Nat.le_of_ble_eq_true rfl) (lv := [(0, .ref (ad 0)), (1, .int p1), (2, .int p2)]) rfl (fun C => ?_)
  have iX7 : ∀ w ∈ wsX70, w ∈ wsX7_number := fun w h => List.mem_cons_of_mem _ (List.mem_append_right _ (inlX7 w h))
  rw [pX7_number]
  refine g_aload_n C 0 0 dX7_number_0 rfl ?_
  refine gfM_X7_broken C 1 iX7 (List.mem_cons_of_mem _ (List.mem_append_right _ wgL_15_6.1)) dX7_number_1 ?_
  refine g_jn0 20 ([(0, .ref (ad 0)), (1, .int p1), (2, .int p2)]) ([]) (fun u1 => ?_) (fun J20 hJ20 => ?_)
  · skip
    refine g_aload_n C 20 0 dX7_number_20 rfl ?_
    refine gfM_X7_broken C 21 iX7 (List.mem_cons_of_mem _ (List.mem_append_right _ wgL_15_6.1)) dX7_number_21 ?_
    refine g_jn0 47 ([(0, .ref (ad 0)), (1, .int p1)]) ([]) (fun u2 => ?_) (fun J47 hJ47 => ?_)
    · skip
      refine g_aload_n C 47 0 dX7_number_47 rfl ?_
      refine gfM_X7_broken C 48 iX7 (List.mem_cons_of_mem _ (List.mem_append_right _ wgL_15_6.1)) dX7_number_48 ?_
      refine g_jn1 62 (fun (a3 : Int32) => [(0, .ref (ad 0))]) (fun (a3 : Int32) => [.int a3]) (fun a3 u4 => ?_) (fun J62 hJ62 => ?_)
      · skip
        refine g_istore_n C 62 [(3, .int a3), (0, .ref (ad 0))] dX7_number_62 (by decide) rfl ?_
        refine g_aload_n C 63 1 dX7_number_63 rfl ?_
        refine g_callVv (st := []) (As := []) C E0_ok E0_vm 64 0 0 (tX7_step F u4) rfl gX7_number_X7_step rfl rfl rfl (by decide +kernel) ⟨Nat.le_of_ble_eq_true rfl, Nat.le_of_ble_eq_true rfl⟩ rfl rfl rfl (Nat.le_of_ble_eq_true rfl) dX7_number_64 (fun u5 => ?_)
        refine g_iload_n C 67 0 dX7_number_67 rfl ?_
        exact g_iret C 68 dX7_number_68
      · skip
        refine g_if_ne C 51 61 dX7_number_51 (by decide) ?_ ?_
        · skip
          refine g_iload_n C 61 1 dX7_number_61 rfl ?_
          exact g_sub _ [0] rfl (hJ62 p1 u2)
        · skip
          refine g_aload_n C 54 0 dX7_number_54 rfl ?_
          refine gfM_X7_value C 55 iX7 (List.mem_cons_of_mem _ (List.mem_append_right _ wgL_16_0.1)) dX7_number_55 ?_
          refine g_goto C 58 62 dX7_number_58 (by decide) ?_
          exact g_sub _ [0] rfl (hJ62 (u2.1 14) u2)
    · skip
      refine g_if_ne C 24 47 dX7_number_24 (by decide) ?_ ?_
      · skip
        exact g_sub _ [0, 1] rfl (hJ47 u1)
      · skip
        refine g_aload_n C 27 0 dX7_number_27 rfl ?_
        refine gfM_X7_value C 28 iX7 (List.mem_cons_of_mem _ (List.mem_append_right _ wgL_16_0.1)) dX7_number_28 ?_
        refine g_i2l C 31 dX7_number_31 ?_
        refine g_iload_n C 32 1 dX7_number_32 rfl ?_
        refine g_i2l C 33 dX7_number_33 ?_
        refine g_iload_n C 34 2 dX7_number_34 rfl ?_
        refine g_i2l C 35 dX7_number_35 ?_
        refine g_callSi (st := []) (As := [.long (Int32.toInt64 (u1.1 14)), .long (Int32.toInt64 p1), .long (Int32.toInt64 p2)]) C E0_ok E0_vm 36 3 (tX7_in F (Int32.toInt64 (u1.1 14)) (Int32.toInt64 p1) (Int32.toInt64 p2) u1) rfl gX7_number_X7_in rfl rfl rfl (by decide +kernel) ⟨Nat.le_of_ble_eq_true rfl, Nat.le_of_ble_eq_true rfl⟩ rfl (Nat.le_of_ble_eq_true rfl) dX7_number_36 (fun r7 u6 => ?_)
        refine g_if_ne C 39 47 dX7_number_39 (by decide) ?_ ?_
        · skip
          exact g_sub _ [0, 1] rfl (hJ47 u6)
        · skip
          refine g_aload_n C 42 0 dX7_number_42 rfl ?_
          refine g_iconst C 43 3 dX7_number_43 rfl ?_
          refine g_callVv (st := []) (As := [.int 3]) C E0_ok E0_vm 44 0 1 (tX7_fails F 3 u6) rfl gX7_number_X7_fails rfl rfl rfl (by decide +kernel) ⟨Nat.le_of_ble_eq_true rfl, Nat.le_of_ble_eq_true rfl⟩ rfl rfl rfl (Nat.le_of_ble_eq_true rfl) dX7_number_44 (fun u8 => ?_)
          exact g_sub _ [0, 1] rfl (hJ47 u8)
  · skip
    refine g_if_ne C 4 20 dX7_number_4 (by decide) ?_ ?_
    · skip
      exact g_sub _ [0, 1, 2] rfl (hJ20 u)
    · skip
      refine g_aload_n C 7 0 dX7_number_7 rfl ?_
      refine gfM_X7_token C 8 iX7 (List.mem_cons_of_mem _ (List.mem_append_right _ wgL_15_13.1)) dX7_number_8 ?_
      refine g_iconst C 11 2 dX7_number_11 rfl ?_
      refine g_icmp_eq C 12 20 dX7_number_12 (by decide) ?_ ?_
      · skip
        exact g_sub _ [0, 1, 2] rfl (hJ20 u)
      · skip
        refine g_aload_n C 15 0 dX7_number_15 rfl ?_
        refine g_iconst C 16 2 dX7_number_16 rfl ?_
        refine g_callVv (st := []) (As := [.int 2]) C E0_ok E0_vm 17 0 1 (tX7_fails F 2 u) rfl gX7_number_X7_fails rfl rfl rfl (by decide +kernel) ⟨Nat.le_of_ble_eq_true rfl, Nat.le_of_ble_eq_true rfl⟩ rfl rfl rfl (Nat.le_of_ble_eq_true rfl) dX7_number_17 (fun u9 => ?_)
        exact g_sub _ [0, 1, 2] rfl (hJ20 u9)
def pX7_readFlame (F : Nat) (p1 : Int32) (u : St) : Option (Unit × St) :=
  jn (fun (a1 : Int32) (u2 : St) => bd (pX7_in F (Int32.toInt64 a1) 0 3 u2) (fun (r4 : Int32) (u3 : St) => if r4 = 0 then bd (pX7_fails F 2 u3) (fun (_ : Unit) (u13 : St) => some ((), u13)) else gd (inb p1 68) (vl (sta u3 2 p1 a1) (fun (u5 : St) => bd (pX7_step F u5) (fun (_ : Unit) (u6 : St) => bd (pX7_number F 0 99 u6) (fun (r8 : Int32) (u7 : St) => gd (inb (8 + p1) 68) (vl (sta u7 2 (8 + p1) r8) (fun (u9 : St) => if (u9.1 9) = 0 then if (u9.1 13) = 2 then bd (pX7_number F 0 9 u9) (fun (r11 : Int32) (u10 : St) => gd (inb (16 + p1) 68) (vl (sta u10 2 (16 + p1) r11) (fun (u12 : St) => some ((), u12)))) else some ((), u9) else some ((), u9))))))))) (fun (J16 : Int32 → St → Option (Unit × St)) => if (u.1 9) ≤ 0 then bd (pX7_nameHere F u) (fun (r15 : Int32) (u14 : St) => (J16 r15 u14)) else (J16 (-4) u))
set_option maxRecDepth 100000 in
set_option maxHeartbeats 4000000 in
theorem tX7_readFlame {l : Launch} {D : va_G} {cI cZ : ClassId} {ad : Nat → Nat} (F : Nat) (p1 : Int32) (u : St) : CtV l D [(cI, .int), (cZ, .boolean)] (wM ad cI cZ) E0 yX7_readFlame wsX7_readFlame ({ frames := 3, cells := 0, slots := 0, locals := 69 } : Room) [.ref (ad 0), .int p1] u (pX7_readFlame F p1 u) := by
  refine ctV_of (own := RX7) (cc := cX7_readFlame) (n := 3) (ret := none) (by decide) rfl rfl (Nat.le_of_ble_eq_true rfl) (lv := [(0, .ref (ad 0)), (1, .int p1)]) rfl (fun C => ?_)
  have iX7 : ∀ w ∈ wsX70, w ∈ wsX7_readFlame := fun w h => List.mem_cons_of_mem _ (List.mem_append_right _ (inlX7 w h))
  rw [pX7_readFlame]
  refine g_aload_n C 0 0 dX7_readFlame_0 rfl ?_
  refine gfM_X7_broken C 1 iX7 (List.mem_cons_of_mem _ (List.mem_append_right _ wgL_15_6.1)) dX7_readFlame_1 ?_
  refine g_jn1 16 (fun (a1 : Int32) => [(0, .ref (ad 0)), (1, .int p1)]) (fun (a1 : Int32) => [.int a1]) (fun a1 u2 => ?_) (fun J16 hJ16 => ?_)
  · skip
    refine g_istore_n C 16 [(2, .int a1), (0, .ref (ad 0)), (1, .int p1)] dX7_readFlame_16 (by decide) rfl ?_
    refine g_iload_n C 17 0 dX7_readFlame_17 rfl ?_
    refine g_i2l C 18 dX7_readFlame_18 ?_
    refine g_lconst C 19 0 dX7_readFlame_19 rfl ?_
    refine g_ldc2 C 20 3 (by decide +kernel) dX7_readFlame_20 ?_
    refine g_callSi (st := []) (As := [.long (Int32.toInt64 a1), .long 0, .long 3]) C E0_ok E0_vm 23 3 (tX7_in F (Int32.toInt64 a1) 0 3 u2) rfl gX7_readFlame_X7_in rfl rfl rfl (by decide +kernel) ⟨Nat.le_of_ble_eq_true rfl, Nat.le_of_ble_eq_true rfl⟩ rfl (Nat.le_of_ble_eq_true rfl) dX7_readFlame_23 (fun r4 u3 => ?_)
    refine g_if_ne C 26 35 dX7_readFlame_26 (by decide) ?_ ?_
    · skip
      refine g_aload_n C 35 1 dX7_readFlame_35 rfl ?_
      refine gfM_X7_readPage C 36 iX7 (List.mem_cons_of_mem _ (List.mem_append_right _ wgL_5_16.1)) dX7_readFlame_36 ?_
      refine g_iload_n C 39 2 dX7_readFlame_39 rfl ?_
      refine g_iload_n C 40 0 dX7_readFlame_40 rfl ?_
      refine g_iast C 41 (1 + 2) 0 2 (wM_arr 2 (by decide)) (wM_aset 2 (by decide)) rfl dX7_readFlame_41 (fun u5 => ?_)
      refine g_aload_n C 42 1 dX7_readFlame_42 rfl ?_
      refine g_callVv (st := []) (As := []) C E0_ok E0_vm 43 0 0 (tX7_step F u5) rfl gX7_readFlame_X7_step rfl rfl rfl (by decide +kernel) ⟨Nat.le_of_ble_eq_true rfl, Nat.le_of_ble_eq_true rfl⟩ rfl rfl rfl (Nat.le_of_ble_eq_true rfl) dX7_readFlame_43 (fun u6 => ?_)
      refine g_aload_n C 46 1 dX7_readFlame_46 rfl ?_
      refine gfM_X7_readPage C 47 iX7 (List.mem_cons_of_mem _ (List.mem_append_right _ wgL_5_16.1)) dX7_readFlame_47 ?_
      refine g_bipush C 50 8 dX7_readFlame_50 rfl ?_
      refine g_iload_n C 52 2 dX7_readFlame_52 rfl ?_
      refine g_iadd C 53 dX7_readFlame_53 ?_
      refine g_aload_n C 54 1 dX7_readFlame_54 rfl ?_
      refine g_iconst C 55 0 dX7_readFlame_55 rfl ?_
      refine g_bipush C 56 99 dX7_readFlame_56 rfl ?_
      refine g_callVi (st := [.int (8 + p1), .ref (ad (1 + 2))]) (As := [.int 0, .int 99]) C E0_ok E0_vm 58 0 2 (tX7_number F 0 99 u6) rfl gX7_readFlame_X7_number rfl rfl rfl (by decide +kernel) ⟨Nat.le_of_ble_eq_true rfl, Nat.le_of_ble_eq_true rfl⟩ rfl rfl rfl (Nat.le_of_ble_eq_true rfl) dX7_readFlame_58 (fun r8 u7 => ?_)
      refine g_iast C 61 (1 + 2) 0 2 (wM_arr 2 (by decide)) (wM_aset 2 (by decide)) rfl dX7_readFlame_61 (fun u9 => ?_)
      refine g_aload_n C 62 1 dX7_readFlame_62 rfl ?_
      refine gfM_X7_broken C 63 iX7 (List.mem_cons_of_mem _ (List.mem_append_right _ wgL_15_6.1)) dX7_readFlame_63 ?_
      refine g_if_ne C 66 93 dX7_readFlame_66 (by decide) ?_ ?_
      · skip
        exact g_vret C 93 dX7_readFlame_93
      · skip
        refine g_aload_n C 69 1 dX7_readFlame_69 rfl ?_
        refine gfM_X7_token C 70 iX7 (List.mem_cons_of_mem _ (List.mem_append_right _ wgL_15_13.1)) dX7_readFlame_70 ?_
        refine g_iconst C 73 2 dX7_readFlame_73 rfl ?_
        refine g_icmp_ne C 74 93 dX7_readFlame_74 (by decide) ?_ ?_
        · skip
          exact g_vret C 93 dX7_readFlame_93
        · skip
          refine g_aload_n C 77 1 dX7_readFlame_77 rfl ?_
          refine gfM_X7_readPage C 78 iX7 (List.mem_cons_of_mem _ (List.mem_append_right _ wgL_5_16.1)) dX7_readFlame_78 ?_
          refine g_bipush C 81 16 dX7_readFlame_81 rfl ?_
          refine g_iload_n C 83 2 dX7_readFlame_83 rfl ?_
          refine g_iadd C 84 dX7_readFlame_84 ?_
          refine g_aload_n C 85 1 dX7_readFlame_85 rfl ?_
          refine g_iconst C 86 0 dX7_readFlame_86 rfl ?_
          refine g_bipush C 87 9 dX7_readFlame_87 rfl ?_
          refine g_callVi (st := [.int (16 + p1), .ref (ad (1 + 2))]) (As := [.int 0, .int 9]) C E0_ok E0_vm 89 0 2 (tX7_number F 0 9 u9) rfl gX7_readFlame_X7_number rfl rfl rfl (by decide +kernel) ⟨Nat.le_of_ble_eq_true rfl, Nat.le_of_ble_eq_true rfl⟩ rfl rfl rfl (Nat.le_of_ble_eq_true rfl) dX7_readFlame_89 (fun r11 u10 => ?_)
          refine g_iast C 92 (1 + 2) 0 2 (wM_arr 2 (by decide)) (wM_aset 2 (by decide)) rfl dX7_readFlame_92 (fun u12 => ?_)
          exact g_vret C 93 dX7_readFlame_93
    · skip
      refine g_aload_n C 29 1 dX7_readFlame_29 rfl ?_
      refine g_iconst C 30 2 dX7_readFlame_30 rfl ?_
      refine g_callVv (st := []) (As := [.int 2]) C E0_ok E0_vm 31 0 1 (tX7_fails F 2 u3) rfl gX7_readFlame_X7_fails rfl rfl rfl (by decide +kernel) ⟨Nat.le_of_ble_eq_true rfl, Nat.le_of_ble_eq_true rfl⟩ rfl rfl rfl (Nat.le_of_ble_eq_true rfl) dX7_readFlame_31 (fun u13 => ?_)
      exact g_vret C 34 dX7_readFlame_34
  · skip
    refine g_if_le C 4 12 dX7_readFlame_4 (by decide) ?_ ?_
    · skip
      refine g_aload_n C 12 0 dX7_readFlame_12 rfl ?_
      refine g_callVi (st := []) (As := []) C E0_ok E0_vm 13 0 0 (tX7_nameHere F u) rfl gX7_readFlame_X7_nameHere rfl rfl rfl (by decide +kernel) ⟨Nat.le_of_ble_eq_true rfl, Nat.le_of_ble_eq_true rfl⟩ rfl rfl rfl (Nat.le_of_ble_eq_true rfl) dX7_readFlame_13 (fun r15 u14 => ?_)
      exact g_sub _ [0, 1] rfl (hJ16 r15 u14)
    · skip
      refine g_bipush C 7 (-4) dX7_readFlame_7 rfl ?_
      refine g_goto C 9 16 dX7_readFlame_9 (by decide) ?_
      exact g_sub _ [0, 1] rfl (hJ16 (-4) u)
def bX7_readDocket_0 (F : Nat)  (self2 : St → Option (Unit × St))  (u1 : St) : Option (Unit × St) :=
  if (u1.1 9) = 0 then if (u1.1 13) = 2 then gd (inb 55 68) (if (u1.2 2 (Int32.toNatClampNeg 55)) = 6 then bd (pX7_fails F 5 u1) (fun (_ : Unit) (u16 : St) => (self2 u16)) else bd (pX7_number F 0 3 u1) (fun (r4 : Int32) (u3 : St) => bd (pX7_number F 0 2 u3) (fun (r6 : Int32) (u5 : St) => jn (fun (a7 : Int32) (u8 : St) => vl (stf u8 5 a7) (fun (u9 : St) => jn (fun (a10 : Int32) (u11 : St) => vl (stf u11 6 a10) (fun (u12 : St) => gd (inb 55 68) (gd (inb (56 + (u12.2 2 (Int32.toNatClampNeg 55))) 68) (vl (sta u12 2 (56 + (u12.2 2 (Int32.toNatClampNeg 55))) r4) (fun (u13 : St) => gd (inb 55 68) (gd (inb (62 + (u13.2 2 (Int32.toNatClampNeg 55))) 68) (vl (sta u13 2 (62 + (u13.2 2 (Int32.toNatClampNeg 55))) r6) (fun (u14 : St) => gd (inb 55 68) (gd (inb 55 68) (vl (sta u14 2 55 ((u14.2 2 (Int32.toNatClampNeg 55)) + 1)) (fun (u15 : St) => (self2 u15)))))))))))) (fun (J86 : Int32 → St → Option (Unit × St)) => if r6 ≤ (u9.1 6) then (J86 (u9.1 6) u9) else (J86 r6 u9)))) (fun (J66 : Int32 → St → Option (Unit × St)) => if r4 ≤ (u5.1 5) then (J66 (u5.1 5) u5) else (J66 r4 u5))))) else some ((), u1) else some ((), u1)
def pX7_readDocket (F : Nat)  (u : St) : Option (Unit × St) :=
  (lp0 (bX7_readDocket_0 F) F u)
set_option maxRecDepth 100000 in
set_option maxHeartbeats 4000000 in
theorem tX7_readDocket {l : Launch} {D : va_G} {cI cZ : ClassId} {ad : Nat → Nat} (F : Nat)  (u : St) : CtV l D [(cI, .int), (cZ, .boolean)] (wM ad cI cZ) E0 yX7_readDocket wsX7_readDocket ({ frames := 3, cells := 0, slots := 0, locals := 69 } : Room) [.ref (ad 0)] u (pX7_readDocket F u) := by
  refine ctV_of (own := RX7) (cc := cX7_readDocket) (n := 3) (ret := none) (by decide) rfl rfl (Nat.le_of_ble_eq_true rfl) (lv := [(0, .ref (ad 0))]) rfl (fun C => ?_)
  have iX7 : ∀ w ∈ wsX70, w ∈ wsX7_readDocket := fun w h => List.mem_cons_of_mem _ (List.mem_append_right _ (inlX7 w h))
  rw [pX7_readDocket]
  refine g_sub _ [0] rfl ?_
  refine g_lp0 (fun self2 hself2 u1 => ?_) F u
  rw [bX7_readDocket_0]
  refine g_aload_n C 0 0 dX7_readDocket_0 rfl ?_
  refine gfM_X7_broken C 1 iX7 (List.mem_cons_of_mem _ (List.mem_append_right _ wgL_15_6.1)) dX7_readDocket_1 ?_
  refine g_if_ne C 4 135 dX7_readDocket_4 (by decide) ?_ ?_
  · skip
    exact g_vret C 135 dX7_readDocket_135
  · skip
    refine g_aload_n C 7 0 dX7_readDocket_7 rfl ?_
    refine gfM_X7_token C 8 iX7 (List.mem_cons_of_mem _ (List.mem_append_right _ wgL_15_13.1)) dX7_readDocket_8 ?_
    refine g_iconst C 11 2 dX7_readDocket_11 rfl ?_
    refine g_icmp_ne C 12 135 dX7_readDocket_12 (by decide) ?_ ?_
    · skip
      exact g_vret C 135 dX7_readDocket_135
    · skip
      refine g_aload_n C 15 0 dX7_readDocket_15 rfl ?_
      refine gfM_X7_readPage C 16 iX7 (List.mem_cons_of_mem _ (List.mem_append_right _ wgL_5_16.1)) dX7_readDocket_16 ?_
      refine g_bipush C 19 55 dX7_readDocket_19 rfl ?_
      refine g_iald C 21 (1 + 2) 0 (wM_arr 2 (by decide)) rfl dX7_readDocket_21 ?_
      refine g_bipush C 22 6 dX7_readDocket_22 rfl ?_
      refine g_icmp_ne C 24 35 dX7_readDocket_24 (by decide) ?_ ?_
      · skip
        refine g_aload_n C 35 0 dX7_readDocket_35 rfl ?_
        refine g_iconst C 36 0 dX7_readDocket_36 rfl ?_
        refine g_iconst C 37 3 dX7_readDocket_37 rfl ?_
        refine g_callVi (st := []) (As := [.int 0, .int 3]) C E0_ok E0_vm 38 0 2 (tX7_number F 0 3 u1) rfl gX7_readDocket_X7_number rfl rfl rfl (by decide +kernel) ⟨Nat.le_of_ble_eq_true rfl, Nat.le_of_ble_eq_true rfl⟩ rfl rfl rfl (Nat.le_of_ble_eq_true rfl) dX7_readDocket_38 (fun r4 u3 => ?_)
        refine g_istore_n C 41 [(1, .int r4), (0, .ref (ad 0))] dX7_readDocket_41 (by decide) rfl ?_
        refine g_aload_n C 42 1 dX7_readDocket_42 rfl ?_
        refine g_iconst C 43 0 dX7_readDocket_43 rfl ?_
        refine g_iconst C 44 2 dX7_readDocket_44 rfl ?_
        refine g_callVi (st := []) (As := [.int 0, .int 2]) C E0_ok E0_vm 45 0 2 (tX7_number F 0 2 u3) rfl gX7_readDocket_X7_number rfl rfl rfl (by decide +kernel) ⟨Nat.le_of_ble_eq_true rfl, Nat.le_of_ble_eq_true rfl⟩ rfl rfl rfl (Nat.le_of_ble_eq_true rfl) dX7_readDocket_45 (fun r6 u5 => ?_)
        refine g_istore_n C 48 [(2, .int r6), (1, .int r4), (0, .ref (ad 0))] dX7_readDocket_48 (by decide) rfl ?_
        refine g_aload_n C 49 2 dX7_readDocket_49 rfl ?_
        refine g_iload_n C 50 1 dX7_readDocket_50 rfl ?_
        refine g_aload_n C 51 2 dX7_readDocket_51 rfl ?_
        refine gfM_X7_highCase C 52 iX7 (List.mem_cons_of_mem _ (List.mem_append_right _ wgL_15_11.1)) dX7_readDocket_52 ?_
        refine g_jn1 66 (fun (a7 : Int32) => [(0, .ref (ad 0)), (1, .int r4), (2, .int r6)]) (fun (a7 : Int32) => [.int a7, .ref (ad 0)]) (fun a7 u8 => ?_) (fun J66 hJ66 => ?_)
        · skip
          refine pfM_X7_highCase C 66 iX7 (List.mem_cons_of_mem _ (List.mem_append_right _ wgL_15_11.1)) dX7_readDocket_66 (fun u9 => ?_)
          refine g_aload_n C 69 0 dX7_readDocket_69 rfl ?_
          refine g_iload_n C 70 2 dX7_readDocket_70 rfl ?_
          refine g_aload_n C 71 0 dX7_readDocket_71 rfl ?_
          refine gfM_X7_highJudge C 72 iX7 (List.mem_cons_of_mem _ (List.mem_append_right _ wgL_15_12.1)) dX7_readDocket_72 ?_
          refine g_jn1 86 (fun (a10 : Int32) => [(0, .ref (ad 0)), (1, .int r4), (2, .int r6)]) (fun (a10 : Int32) => [.int a10, .ref (ad 0)]) (fun a10 u11 => ?_) (fun J86 hJ86 => ?_)
          · skip
            refine pfM_X7_highJudge C 86 iX7 (List.mem_cons_of_mem _ (List.mem_append_right _ wgL_15_12.1)) dX7_readDocket_86 (fun u12 => ?_)
            refine g_aload_n C 89 0 dX7_readDocket_89 rfl ?_
            refine gfM_X7_readPage C 90 iX7 (List.mem_cons_of_mem _ (List.mem_append_right _ wgL_5_16.1)) dX7_readDocket_90 ?_
            refine g_bipush C 93 56 dX7_readDocket_93 rfl ?_
            refine g_aload_n C 95 0 dX7_readDocket_95 rfl ?_
            refine gfM_X7_readPage C 96 iX7 (List.mem_cons_of_mem _ (List.mem_append_right _ wgL_5_16.1)) dX7_readDocket_96 ?_
            refine g_bipush C 99 55 dX7_readDocket_99 rfl ?_
            refine g_iald C 101 (1 + 2) 0 (wM_arr 2 (by decide)) rfl dX7_readDocket_101 ?_
            refine g_iadd C 102 dX7_readDocket_102 ?_
            refine g_iload_n C 103 1 dX7_readDocket_103 rfl ?_
            refine g_iast C 104 (1 + 2) 0 2 (wM_arr 2 (by decide)) (wM_aset 2 (by decide)) rfl dX7_readDocket_104 (fun u13 => ?_)
            refine g_aload_n C 105 0 dX7_readDocket_105 rfl ?_
            refine gfM_X7_readPage C 106 iX7 (List.mem_cons_of_mem _ (List.mem_append_right _ wgL_5_16.1)) dX7_readDocket_106 ?_
            refine g_bipush C 109 62 dX7_readDocket_109 rfl ?_
            refine g_aload_n C 111 0 dX7_readDocket_111 rfl ?_
            refine gfM_X7_readPage C 112 iX7 (List.mem_cons_of_mem _ (List.mem_append_right _ wgL_5_16.1)) dX7_readDocket_112 ?_
            refine g_bipush C 115 55 dX7_readDocket_115 rfl ?_
            refine g_iald C 117 (1 + 2) 0 (wM_arr 2 (by decide)) rfl dX7_readDocket_117 ?_
            refine g_iadd C 118 dX7_readDocket_118 ?_
            refine g_iload_n C 119 2 dX7_readDocket_119 rfl ?_
            refine g_iast C 120 (1 + 2) 0 2 (wM_arr 2 (by decide)) (wM_aset 2 (by decide)) rfl dX7_readDocket_120 (fun u14 => ?_)
            refine g_aload_n C 121 0 dX7_readDocket_121 rfl ?_
            refine gfM_X7_readPage C 122 iX7 (List.mem_cons_of_mem _ (List.mem_append_right _ wgL_5_16.1)) dX7_readDocket_122 ?_
            refine g_bipush C 125 55 dX7_readDocket_125 rfl ?_
            refine g_dup2 C 127 dX7_readDocket_127 rfl rfl ?_
            refine g_iald C 128 (1 + 2) 0 (wM_arr 2 (by decide)) rfl dX7_readDocket_128 ?_
            refine g_iconst C 129 1 dX7_readDocket_129 rfl ?_
            refine g_iadd C 130 dX7_readDocket_130 ?_
            refine g_iast C 131 (1 + 2) 0 2 (wM_arr 2 (by decide)) (wM_aset 2 (by decide)) rfl dX7_readDocket_131 (fun u15 => ?_)
            refine g_goto C 132 0 dX7_readDocket_132 (by decide) ?_
            exact g_sub _ [0] rfl (hself2 u15)
          · skip
            refine g_icmp_le C 75 82 dX7_readDocket_75 (by decide) ?_ ?_
            · skip
              refine g_aload_n C 82 0 dX7_readDocket_82 rfl ?_
              refine gfM_X7_highJudge C 83 iX7 (List.mem_cons_of_mem _ (List.mem_append_right _ wgL_15_12.1)) dX7_readDocket_83 ?_
              exact g_sub _ [0, 1, 2] rfl (hJ86 (u9.1 6) u9)
            · skip
              refine g_iload_n C 78 2 dX7_readDocket_78 rfl ?_
              refine g_goto C 79 86 dX7_readDocket_79 (by decide) ?_
              exact g_sub _ [0, 1, 2] rfl (hJ86 r6 u9)
        · skip
          refine g_icmp_le C 55 62 dX7_readDocket_55 (by decide) ?_ ?_
          · skip
            refine g_aload_n C 62 2 dX7_readDocket_62 rfl ?_
            refine gfM_X7_highCase C 63 iX7 (List.mem_cons_of_mem _ (List.mem_append_right _ wgL_15_11.1)) dX7_readDocket_63 ?_
            exact g_sub _ [2, 1, 0] rfl (hJ66 (u5.1 5) u5)
          · skip
            refine g_iload_n C 58 1 dX7_readDocket_58 rfl ?_
            refine g_goto C 59 66 dX7_readDocket_59 (by decide) ?_
            exact g_sub _ [2, 1, 0] rfl (hJ66 r4 u5)
      · skip
        refine g_aload_n C 27 0 dX7_readDocket_27 rfl ?_
        refine g_iconst C 28 5 dX7_readDocket_28 rfl ?_
        refine g_callVv (st := []) (As := [.int 5]) C E0_ok E0_vm 29 0 1 (tX7_fails F 5 u1) rfl gX7_readDocket_X7_fails rfl rfl rfl (by decide +kernel) ⟨Nat.le_of_ble_eq_true rfl, Nat.le_of_ble_eq_true rfl⟩ rfl rfl rfl (Nat.le_of_ble_eq_true rfl) dX7_readDocket_29 (fun u16 => ?_)
        refine g_goto C 32 0 dX7_readDocket_32 (by decide) ?_
        exact g_sub _ [0] rfl (hself2 u16)
def pX7_readMore (F : Nat) (p1 : Int32) (u : St) : Option (Unit × St) :=
  if p1 = 8 then bd (pX7_readFlame F (2 * (u.1 2)) u) (fun (_ : Unit) (u14 : St) => bd (pX7_readFlame F ((2 * (u14.1 2)) + 1) u14) (fun (_ : Unit) (u15 : St) => vl (stf u15 2 ((u15.1 2) + 1)) (fun (u16 : St) => some ((), u16)))) else if p1 = 9 then gd (inb 46 68) (bd (pX7_number F 0 20 u) (fun (r8 : Int32) (u7 : St) => gd (inb (47 + (u.2 2 (Int32.toNatClampNeg 46))) 68) (vl (sta u7 2 (47 + (u.2 2 (Int32.toNatClampNeg 46))) r8) (fun (u9 : St) => gd (inb 46 68) (bd (pX7_number F 1 9 u9) (fun (r11 : Int32) (u10 : St) => gd (inb (51 + (u9.2 2 (Int32.toNatClampNeg 46))) 68) (vl (sta u10 2 (51 + (u9.2 2 (Int32.toNatClampNeg 46))) r11) (fun (u12 : St) => gd (inb 46 68) (gd (inb 46 68) (vl (sta u12 2 46 ((u12.2 2 (Int32.toNatClampNeg 46)) + 1)) (fun (u13 : St) => some ((), u13)))))))))))) else if p1 = 10 then bd (pX7_readDocket F u) (fun (_ : Unit) (u6 : St) => some ((), u6)) else gd (inb (40 + (u.1 3)) 68) (vl (sta u 2 (40 + (u.1 3)) (p1 - 4)) (fun (u1 : St) => bd (pX7_number F 1 9 u1) (fun (r3 : Int32) (u2 : St) => gd (inb (43 + (u1.1 3)) 68) (vl (sta u2 2 (43 + (u1.1 3)) r3) (fun (u4 : St) => vl (stf u4 3 ((u4.1 3) + 1)) (fun (u5 : St) => some ((), u5)))))))
set_option maxRecDepth 100000 in
set_option maxHeartbeats 4000000 in
theorem tX7_readMore {l : Launch} {D : va_G} {cI cZ : ClassId} {ad : Nat → Nat} (F : Nat) (p1 : Int32) (u : St) : CtV l D [(cI, .int), (cZ, .boolean)] (wM ad cI cZ) E0 yX7_readMore wsX7_readMore ({ frames := 4, cells := 0, slots := 0, locals := 91 } : Room) [.ref (ad 0), .int p1] u (pX7_readMore F p1 u) := by
  refine ctV_of (own := RX7) (cc := cX7_readMore) (n := 2) (ret := none) (by decide) rfl rfl (Nat.le_of_ble_eq_true rfl) (lv := [(0, .ref (ad 0)), (1, .int p1)]) rfl (fun C => ?_)
  have iX7 : ∀ w ∈ wsX70, w ∈ wsX7_readMore := fun w h => List.mem_cons_of_mem _ (List.mem_append_right _ (inlX7 w h))
  rw [pX7_readMore]
  refine g_iload_n C 0 1 dX7_readMore_0 rfl ?_
  refine g_bipush C 1 8 dX7_readMore_1 rfl ?_
  refine g_icmp_ne C 3 41 dX7_readMore_3 (by decide) ?_ ?_
  · skip
    refine g_iload_n C 41 1 dX7_readMore_41 rfl ?_
    refine g_bipush C 42 9 dX7_readMore_42 rfl ?_
    refine g_icmp_ne C 44 105 dX7_readMore_44 (by decide) ?_ ?_
    · skip
      refine g_iload_n C 105 1 dX7_readMore_105 rfl ?_
      refine g_bipush C 106 10 dX7_readMore_106 rfl ?_
      refine g_icmp_ne C 108 118 dX7_readMore_108 (by decide) ?_ ?_
      · skip
        refine g_aload_n C 118 0 dX7_readMore_118 rfl ?_
        refine gfM_X7_readPage C 119 iX7 (List.mem_cons_of_mem _ (List.mem_append_right _ wgL_5_16.1)) dX7_readMore_119 ?_
        refine g_bipush C 122 40 dX7_readMore_122 rfl ?_
        refine g_aload_n C 124 0 dX7_readMore_124 rfl ?_
        refine gfM_X7_readJudges C 125 iX7 (List.mem_cons_of_mem _ (List.mem_append_right _ wgL_15_9.1)) dX7_readMore_125 ?_
        refine g_iadd C 128 dX7_readMore_128 ?_
        refine g_iload_n C 129 1 dX7_readMore_129 rfl ?_
        refine g_iconst C 130 4 dX7_readMore_130 rfl ?_
        refine g_isub C 131 dX7_readMore_131 ?_
        refine g_iast C 132 (1 + 2) 0 2 (wM_arr 2 (by decide)) (wM_aset 2 (by decide)) rfl dX7_readMore_132 (fun u1 => ?_)
        refine g_aload_n C 133 0 dX7_readMore_133 rfl ?_
        refine gfM_X7_readPage C 134 iX7 (List.mem_cons_of_mem _ (List.mem_append_right _ wgL_5_16.1)) dX7_readMore_134 ?_
        refine g_bipush C 137 43 dX7_readMore_137 rfl ?_
        refine g_aload_n C 139 0 dX7_readMore_139 rfl ?_
        refine gfM_X7_readJudges C 140 iX7 (List.mem_cons_of_mem _ (List.mem_append_right _ wgL_15_9.1)) dX7_readMore_140 ?_
        refine g_iadd C 143 dX7_readMore_143 ?_
        refine g_aload_n C 144 0 dX7_readMore_144 rfl ?_
        refine g_iconst C 145 1 dX7_readMore_145 rfl ?_
        refine g_bipush C 146 9 dX7_readMore_146 rfl ?_
        refine g_callVi (st := [.int (43 + (u1.1 3)), .ref (ad (1 + 2))]) (As := [.int 1, .int 9]) C E0_ok E0_vm 148 0 2 (tX7_number F 1 9 u1) rfl gX7_readMore_X7_number rfl rfl rfl (by decide +kernel) ⟨Nat.le_of_ble_eq_true rfl, Nat.le_of_ble_eq_true rfl⟩ rfl rfl rfl (Nat.le_of_ble_eq_true rfl) dX7_readMore_148 (fun r3 u2 => ?_)
        refine g_iast C 151 (1 + 2) 0 2 (wM_arr 2 (by decide)) (wM_aset 2 (by decide)) rfl dX7_readMore_151 (fun u4 => ?_)
        refine g_aload_n C 152 0 dX7_readMore_152 rfl ?_
        refine g_dup C 153 dX7_readMore_153 rfl ?_
        refine gfM_X7_readJudges C 154 iX7 (List.mem_cons_of_mem _ (List.mem_append_right _ wgL_15_9.1)) dX7_readMore_154 ?_
        refine g_iconst C 157 1 dX7_readMore_157 rfl ?_
        refine g_iadd C 158 dX7_readMore_158 ?_
        refine pfM_X7_readJudges C 159 iX7 (List.mem_cons_of_mem _ (List.mem_append_right _ wgL_15_9.1)) dX7_readMore_159 (fun u5 => ?_)
        exact g_vret C 162 dX7_readMore_162
      · skip
        refine g_aload_n C 111 0 dX7_readMore_111 rfl ?_
        refine g_callVv (st := []) (As := []) C E0_ok E0_vm 112 0 0 (tX7_readDocket F u) rfl gX7_readMore_X7_readDocket rfl rfl rfl (by decide +kernel) ⟨Nat.le_of_ble_eq_true rfl, Nat.le_of_ble_eq_true rfl⟩ rfl rfl rfl (Nat.le_of_ble_eq_true rfl) dX7_readMore_112 (fun u6 => ?_)
        refine g_goto C 115 162 dX7_readMore_115 (by decide) ?_
        exact g_vret C 162 dX7_readMore_162
    · skip
      refine g_aload_n C 47 0 dX7_readMore_47 rfl ?_
      refine gfM_X7_readPage C 48 iX7 (List.mem_cons_of_mem _ (List.mem_append_right _ wgL_5_16.1)) dX7_readMore_48 ?_
      refine g_bipush C 51 47 dX7_readMore_51 rfl ?_
      refine g_aload_n C 53 0 dX7_readMore_53 rfl ?_
      refine gfM_X7_readPage C 54 iX7 (List.mem_cons_of_mem _ (List.mem_append_right _ wgL_5_16.1)) dX7_readMore_54 ?_
      refine g_bipush C 57 46 dX7_readMore_57 rfl ?_
      refine g_iald C 59 (1 + 2) 0 (wM_arr 2 (by decide)) rfl dX7_readMore_59 ?_
      refine g_iadd C 60 dX7_readMore_60 ?_
      refine g_aload_n C 61 0 dX7_readMore_61 rfl ?_
      refine g_iconst C 62 0 dX7_readMore_62 rfl ?_
      refine g_bipush C 63 20 dX7_readMore_63 rfl ?_
      refine g_callVi (st := [.int (47 + (u.2 2 (Int32.toNatClampNeg 46))), .ref (ad (1 + 2))]) (As := [.int 0, .int 20]) C E0_ok E0_vm 65 0 2 (tX7_number F 0 20 u) rfl gX7_readMore_X7_number rfl rfl rfl (by decide +kernel) ⟨Nat.le_of_ble_eq_true rfl, Nat.le_of_ble_eq_true rfl⟩ rfl rfl rfl (Nat.le_of_ble_eq_true rfl) dX7_readMore_65 (fun r8 u7 => ?_)
      refine g_iast C 68 (1 + 2) 0 2 (wM_arr 2 (by decide)) (wM_aset 2 (by decide)) rfl dX7_readMore_68 (fun u9 => ?_)
      refine g_aload_n C 69 0 dX7_readMore_69 rfl ?_
      refine gfM_X7_readPage C 70 iX7 (List.mem_cons_of_mem _ (List.mem_append_right _ wgL_5_16.1)) dX7_readMore_70 ?_
      refine g_bipush C 73 51 dX7_readMore_73 rfl ?_
      refine g_aload_n C 75 0 dX7_readMore_75 rfl ?_
      refine gfM_X7_readPage C 76 iX7 (List.mem_cons_of_mem _ (List.mem_append_right _ wgL_5_16.1)) dX7_readMore_76 ?_
      refine g_bipush C 79 46 dX7_readMore_79 rfl ?_
      refine g_iald C 81 (1 + 2) 0 (wM_arr 2 (by decide)) rfl dX7_readMore_81 ?_
      refine g_iadd C 82 dX7_readMore_82 ?_
      refine g_aload_n C 83 0 dX7_readMore_83 rfl ?_
      refine g_iconst C 84 1 dX7_readMore_84 rfl ?_
      refine g_bipush C 85 9 dX7_readMore_85 rfl ?_
      refine g_callVi (st := [.int (51 + (u9.2 2 (Int32.toNatClampNeg 46))), .ref (ad (1 + 2))]) (As := [.int 1, .int 9]) C E0_ok E0_vm 87 0 2 (tX7_number F 1 9 u9) rfl gX7_readMore_X7_number rfl rfl rfl (by decide +kernel) ⟨Nat.le_of_ble_eq_true rfl, Nat.le_of_ble_eq_true rfl⟩ rfl rfl rfl (Nat.le_of_ble_eq_true rfl) dX7_readMore_87 (fun r11 u10 => ?_)
      refine g_iast C 90 (1 + 2) 0 2 (wM_arr 2 (by decide)) (wM_aset 2 (by decide)) rfl dX7_readMore_90 (fun u12 => ?_)
      refine g_aload_n C 91 0 dX7_readMore_91 rfl ?_
      refine gfM_X7_readPage C 92 iX7 (List.mem_cons_of_mem _ (List.mem_append_right _ wgL_5_16.1)) dX7_readMore_92 ?_
      refine g_bipush C 95 46 dX7_readMore_95 rfl ?_
      refine g_dup2 C 97 dX7_readMore_97 rfl rfl ?_
      refine g_iald C 98 (1 + 2) 0 (wM_arr 2 (by decide)) rfl dX7_readMore_98 ?_
      refine g_iconst C 99 1 dX7_readMore_99 rfl ?_
      refine g_iadd C 100 dX7_readMore_100 ?_
      refine g_iast C 101 (1 + 2) 0 2 (wM_arr 2 (by decide)) (wM_aset 2 (by decide)) rfl dX7_readMore_101 (fun u13 => ?_)
      refine g_goto C 102 162 dX7_readMore_102 (by decide) ?_
      exact g_vret C 162 dX7_readMore_162
  · skip
    refine g_aload_n C 6 0 dX7_readMore_6 rfl ?_
    refine g_iconst C 7 2 dX7_readMore_7 rfl ?_
    refine g_aload_n C 8 0 dX7_readMore_8 rfl ?_
    refine gfM_X7_readCases C 9 iX7 (List.mem_cons_of_mem _ (List.mem_append_right _ wgL_15_8.1)) dX7_readMore_9 ?_
    refine g_imul C 12 dX7_readMore_12 ?_
    refine g_callVv (st := []) (As := [.int (2 * (u.1 2))]) C E0_ok E0_vm 13 0 1 (tX7_readFlame F (2 * (u.1 2)) u) rfl gX7_readMore_X7_readFlame rfl rfl rfl (by decide +kernel) ⟨Nat.le_of_ble_eq_true rfl, Nat.le_of_ble_eq_true rfl⟩ rfl rfl rfl (Nat.le_of_ble_eq_true rfl) dX7_readMore_13 (fun u14 => ?_)
    refine g_aload_n C 16 0 dX7_readMore_16 rfl ?_
    refine g_iconst C 17 2 dX7_readMore_17 rfl ?_
    refine g_aload_n C 18 0 dX7_readMore_18 rfl ?_
    refine gfM_X7_readCases C 19 iX7 (List.mem_cons_of_mem _ (List.mem_append_right _ wgL_15_8.1)) dX7_readMore_19 ?_
    refine g_imul C 22 dX7_readMore_22 ?_
    refine g_iconst C 23 1 dX7_readMore_23 rfl ?_
    refine g_iadd C 24 dX7_readMore_24 ?_
    refine g_callVv (st := []) (As := [.int ((2 * (u14.1 2)) + 1)]) C E0_ok E0_vm 25 0 1 (tX7_readFlame F ((2 * (u14.1 2)) + 1) u14) rfl gX7_readMore_X7_readFlame rfl rfl rfl (by decide +kernel) ⟨Nat.le_of_ble_eq_true rfl, Nat.le_of_ble_eq_true rfl⟩ rfl rfl rfl (Nat.le_of_ble_eq_true rfl) dX7_readMore_25 (fun u15 => ?_)
    refine g_aload_n C 28 0 dX7_readMore_28 rfl ?_
    refine g_dup C 29 dX7_readMore_29 rfl ?_
    refine gfM_X7_readCases C 30 iX7 (List.mem_cons_of_mem _ (List.mem_append_right _ wgL_15_8.1)) dX7_readMore_30 ?_
    refine g_iconst C 33 1 dX7_readMore_33 rfl ?_
    refine g_iadd C 34 dX7_readMore_34 ?_
    refine pfM_X7_readCases C 35 iX7 (List.mem_cons_of_mem _ (List.mem_append_right _ wgL_15_8.1)) dX7_readMore_35 (fun u16 => ?_)
    refine g_goto C 38 162 dX7_readMore_38 (by decide) ?_
    exact g_vret C 162 dX7_readMore_162
def pX7_readLine (F : Nat)  (u : St) : Option (Unit × St) :=
  bd (pX7_nameHere F u) (fun (r2 : Int32) (u1 : St) => bd (pX7_in F (Int32.toInt64 r2) 4 10 u1) (fun (r4 : Int32) (u3 : St) => if r4 = 0 then bd (pX7_fails F 2 u3) (fun (_ : Unit) (u21 : St) => some ((), u21)) else jn (fun (u5 : St) => jn (fun (u6 : St) => jn (fun (a7 : Int32) (u8 : St) => gd (z01 a7) (vl (stf u8 4 a7) (fun (u9 : St) => bd (pX7_step F u9) (fun (_ : Unit) (u10 : St) => if (u10.1 9) ≤ 0 then bd (pX7_readMore F r2 u10) (fun (_ : Unit) (u11 : St) => jn (fun (u12 : St) => bd (pX7_step F u12) (fun (_ : Unit) (u13 : St) => some ((), u13))) (fun (J152 : St → Option (Unit × St)) => if (u11.1 9) = 0 then if (u11.1 13) = 3 then (J152 u11) else bd (pX7_fails F 2 u11) (fun (_ : Unit) (u14 : St) => (J152 u14)) else (J152 u11))) else some ((), u10))))) (fun (J112 : Int32 → St → Option (Unit × St)) => jn (fun (u15 : St) => (J112 1 u15)) (fun (J107 : St → Option (Unit × St)) => if (u6.1 4) = 0 then if r2 = 10 then (J107 u6) else (J112 0 u6) else (J107 u6)))) (fun (J93 : St → Option (Unit × St)) => if r2 = 10 then if (u5.1 4) = 0 then (J93 u5) else bd (pX7_fails F 4 u5) (fun (_ : Unit) (u16 : St) => (J93 u16)) else (J93 u5))) (fun (J75 : St → Option (Unit × St)) => jn (fun (u17 : St) => bd (pX7_fails F 5 u17) (fun (_ : Unit) (u18 : St) => (J75 u18))) (fun (J70 : St → Option (Unit × St)) => jn (fun (u19 : St) => jn (fun (u20 : St) => if r2 = 9 then gd (inb 46 68) (if (u20.2 2 (Int32.toNatClampNeg 46)) = 4 then (J70 u20) else (J75 u20)) else (J75 u20)) (fun (J53 : St → Option (Unit × St)) => if 7 < r2 then (J53 u19) else if (u19.1 3) = 3 then (J70 u19) else (J53 u19))) (fun (J39 : St → Option (Unit × St)) => if r2 = 8 then if (u3.1 2) = 4 then (J70 u3) else (J39 u3) else (J39 u3))))))
set_option maxRecDepth 100000 in
set_option maxHeartbeats 4000000 in
theorem tX7_readLine {l : Launch} {D : va_G} {cI cZ : ClassId} {ad : Nat → Nat} (F : Nat)  (u : St) : CtV l D [(cI, .int), (cZ, .boolean)] (wM ad cI cZ) E0 yX7_readLine wsX7_readLine ({ frames := 5, cells := 0, slots := 0, locals := 112 } : Room) [.ref (ad 0)] u (pX7_readLine F u) := by
  refine ctV_of (own := RX7) (cc := cX7_readLine) (n := 2) (ret := none) (by decide) rfl rfl (Nat.le_of_ble_eq_true rfl) (lv := [(0, .ref (ad 0))]) rfl (fun C => ?_)
  have iX7 : ∀ w ∈ wsX70, w ∈ wsX7_readLine := fun w h => List.mem_cons_of_mem _ (List.mem_append_right _ (inlX7 w h))
  rw [pX7_readLine]
  refine g_aload_n C 0 0 dX7_readLine_0 rfl ?_
  refine g_callVi (st := []) (As := []) C E0_ok E0_vm 1 0 0 (tX7_nameHere F u) rfl gX7_readLine_X7_nameHere rfl rfl rfl (by decide +kernel) ⟨Nat.le_of_ble_eq_true rfl, Nat.le_of_ble_eq_true rfl⟩ rfl rfl rfl (Nat.le_of_ble_eq_true rfl) dX7_readLine_1 (fun r2 u1 => ?_)
  refine g_istore_n C 4 [(1, .int r2), (0, .ref (ad 0))] dX7_readLine_4 (by decide) rfl ?_
  refine g_iload_n C 5 0 dX7_readLine_5 rfl ?_
  refine g_i2l C 6 dX7_readLine_6 ?_
  refine g_ldc2 C 7 4 (by decide +kernel) dX7_readLine_7 ?_
  refine g_ldc2 C 10 10 (by decide +kernel) dX7_readLine_10 ?_
  refine g_callSi (st := []) (As := [.long (Int32.toInt64 r2), .long 4, .long 10]) C E0_ok E0_vm 13 3 (tX7_in F (Int32.toInt64 r2) 4 10 u1) rfl gX7_readLine_X7_in rfl rfl rfl (by decide +kernel) ⟨Nat.le_of_ble_eq_true rfl, Nat.le_of_ble_eq_true rfl⟩ rfl (Nat.le_of_ble_eq_true rfl) dX7_readLine_13 (fun r4 u3 => ?_)
  refine g_if_ne C 16 25 dX7_readLine_16 (by decide) ?_ ?_
  · skip
    refine g_iload_n C 25 0 dX7_readLine_25 rfl ?_
    refine g_bipush C 26 8 dX7_readLine_26 rfl ?_
    refine g_jn0 75 ([(0, .ref (ad 0)), (1, .int r2)]) ([]) (fun u5 => ?_) (fun J75 hJ75 => ?_)
    · skip
      refine g_iload_n C 75 1 dX7_readLine_75 rfl ?_
      refine g_bipush C 76 10 dX7_readLine_76 rfl ?_
      refine g_jn0 93 ([(0, .ref (ad 0)), (1, .int r2)]) ([]) (fun u6 => ?_) (fun J93 hJ93 => ?_)
      · skip
        refine g_aload_n C 93 0 dX7_readLine_93 rfl ?_
        refine g_aload_n C 94 0 dX7_readLine_94 rfl ?_
        refine gfM_X7_isDocketTold C 95 iX7 (List.mem_cons_of_mem _ (List.mem_append_right _ wgL_15_10.1)) dX7_readLine_95 ?_
        refine g_jn1 112 (fun (a7 : Int32) => [(0, .ref (ad 0)), (1, .int r2)]) (fun (a7 : Int32) => [.int a7, .ref (ad 0)]) (fun a7 u8 => ?_) (fun J112 hJ112 => ?_)
        · skip
          refine pfM_X7_isDocketTold C 112 iX7 (List.mem_cons_of_mem _ (List.mem_append_right _ wgL_15_10.1)) dX7_readLine_112 (fun u9 => ?_)
          refine g_aload_n C 115 0 dX7_readLine_115 rfl ?_
          refine g_callVv (st := []) (As := []) C E0_ok E0_vm 116 0 0 (tX7_step F u9) rfl gX7_readLine_X7_step rfl rfl rfl (by decide +kernel) ⟨Nat.le_of_ble_eq_true rfl, Nat.le_of_ble_eq_true rfl⟩ rfl rfl rfl (Nat.le_of_ble_eq_true rfl) dX7_readLine_116 (fun u10 => ?_)
          refine g_aload_n C 119 0 dX7_readLine_119 rfl ?_
          refine gfM_X7_broken C 120 iX7 (List.mem_cons_of_mem _ (List.mem_append_right _ wgL_15_6.1)) dX7_readLine_120 ?_
          refine g_if_le C 123 127 dX7_readLine_123 (by decide) ?_ ?_
          · skip
            refine g_aload_n C 127 0 dX7_readLine_127 rfl ?_
            refine g_iload_n C 128 1 dX7_readLine_128 rfl ?_
            refine g_callVv (st := []) (As := [.int r2]) C E0_ok E0_vm 129 0 1 (tX7_readMore F r2 u10) rfl gX7_readLine_X7_readMore rfl rfl rfl (by decide +kernel) ⟨Nat.le_of_ble_eq_true rfl, Nat.le_of_ble_eq_true rfl⟩ rfl rfl rfl (Nat.le_of_ble_eq_true rfl) dX7_readLine_129 (fun u11 => ?_)
            refine g_aload_n C 132 0 dX7_readLine_132 rfl ?_
            refine gfM_X7_broken C 133 iX7 (List.mem_cons_of_mem _ (List.mem_append_right _ wgL_15_6.1)) dX7_readLine_133 ?_
            refine g_jn0 152 ([(0, .ref (ad 0))]) ([]) (fun u12 => ?_) (fun J152 hJ152 => ?_)
            · skip
              refine g_aload_n C 152 0 dX7_readLine_152 rfl ?_
              refine g_callVv (st := []) (As := []) C E0_ok E0_vm 153 0 0 (tX7_step F u12) rfl gX7_readLine_X7_step rfl rfl rfl (by decide +kernel) ⟨Nat.le_of_ble_eq_true rfl, Nat.le_of_ble_eq_true rfl⟩ rfl rfl rfl (Nat.le_of_ble_eq_true rfl) dX7_readLine_153 (fun u13 => ?_)
              exact g_vret C 156 dX7_readLine_156
            · skip
              refine g_if_ne C 136 152 dX7_readLine_136 (by decide) ?_ ?_
              · skip
                exact g_sub _ [0] rfl (hJ152 u11)
              · skip
                refine g_aload_n C 139 0 dX7_readLine_139 rfl ?_
                refine gfM_X7_token C 140 iX7 (List.mem_cons_of_mem _ (List.mem_append_right _ wgL_15_13.1)) dX7_readLine_140 ?_
                refine g_iconst C 143 3 dX7_readLine_143 rfl ?_
                refine g_icmp_eq C 144 152 dX7_readLine_144 (by decide) ?_ ?_
                · skip
                  exact g_sub _ [0] rfl (hJ152 u11)
                · skip
                  refine g_aload_n C 147 0 dX7_readLine_147 rfl ?_
                  refine g_iconst C 148 2 dX7_readLine_148 rfl ?_
                  refine g_callVv (st := []) (As := [.int 2]) C E0_ok E0_vm 149 0 1 (tX7_fails F 2 u11) rfl gX7_readLine_X7_fails rfl rfl rfl (by decide +kernel) ⟨Nat.le_of_ble_eq_true rfl, Nat.le_of_ble_eq_true rfl⟩ rfl rfl rfl (Nat.le_of_ble_eq_true rfl) dX7_readLine_149 (fun u14 => ?_)
                  exact g_sub _ [0] rfl (hJ152 u14)
          · skip
            exact g_vret C 126 dX7_readLine_126
        · skip
          refine g_jn0 107 ([(0, .ref (ad 0)), (1, .int r2)]) ([.ref (ad 0)]) (fun u15 => ?_) (fun J107 hJ107 => ?_)
          · skip
            refine g_iconst C 107 1 dX7_readLine_107 rfl ?_
            refine g_goto C 108 112 dX7_readLine_108 (by decide) ?_
            exact g_sub _ [0, 1] rfl (hJ112 1 u15)
          · skip
            refine g_if_ne C 98 107 dX7_readLine_98 (by decide) ?_ ?_
            · skip
              exact g_sub _ [0, 1] rfl (hJ107 u6)
            · skip
              refine g_iload_n C 101 1 dX7_readLine_101 rfl ?_
              refine g_bipush C 102 10 dX7_readLine_102 rfl ?_
              refine g_icmp_ne C 104 111 dX7_readLine_104 (by decide) ?_ ?_
              · skip
                refine g_iconst C 111 0 dX7_readLine_111 rfl ?_
                exact g_sub _ [0, 1] rfl (hJ112 0 u6)
              · skip
                exact g_sub _ [0, 1] rfl (hJ107 u6)
      · skip
        refine g_icmp_ne C 78 93 dX7_readLine_78 (by decide) ?_ ?_
        · skip
          exact g_sub _ [0, 1] rfl (hJ93 u5)
        · skip
          refine g_aload_n C 81 0 dX7_readLine_81 rfl ?_
          refine gfM_X7_isDocketTold C 82 iX7 (List.mem_cons_of_mem _ (List.mem_append_right _ wgL_15_10.1)) dX7_readLine_82 ?_
          refine g_if_eq C 85 93 dX7_readLine_85 (by decide) ?_ ?_
          · skip
            exact g_sub _ [0, 1] rfl (hJ93 u5)
          · skip
            refine g_aload_n C 88 0 dX7_readLine_88 rfl ?_
            refine g_iconst C 89 4 dX7_readLine_89 rfl ?_
            refine g_callVv (st := []) (As := [.int 4]) C E0_ok E0_vm 90 0 1 (tX7_fails F 4 u5) rfl gX7_readLine_X7_fails rfl rfl rfl (by decide +kernel) ⟨Nat.le_of_ble_eq_true rfl, Nat.le_of_ble_eq_true rfl⟩ rfl rfl rfl (Nat.le_of_ble_eq_true rfl) dX7_readLine_90 (fun u16 => ?_)
            exact g_sub _ [0, 1] rfl (hJ93 u16)
    · skip
      refine g_jn0 70 ([(0, .ref (ad 0)), (1, .int r2)]) ([]) (fun u17 => ?_) (fun J70 hJ70 => ?_)
      · skip
        refine g_aload_n C 70 0 dX7_readLine_70 rfl ?_
        refine g_iconst C 71 5 dX7_readLine_71 rfl ?_
        refine g_callVv (st := []) (As := [.int 5]) C E0_ok E0_vm 72 0 1 (tX7_fails F 5 u17) rfl gX7_readLine_X7_fails rfl rfl rfl (by decide +kernel) ⟨Nat.le_of_ble_eq_true rfl, Nat.le_of_ble_eq_true rfl⟩ rfl rfl rfl (Nat.le_of_ble_eq_true rfl) dX7_readLine_72 (fun u18 => ?_)
        exact g_sub _ [0, 1] rfl (hJ75 u18)
      · skip
        refine g_jn0 39 ([(0, .ref (ad 0)), (1, .int r2)]) ([]) (fun u19 => ?_) (fun J39 hJ39 => ?_)
        · skip
          refine g_iload_n C 39 1 dX7_readLine_39 rfl ?_
          refine g_bipush C 40 7 dX7_readLine_40 rfl ?_
          refine g_jn0 53 ([(0, .ref (ad 0)), (1, .int r2)]) ([]) (fun u20 => ?_) (fun J53 hJ53 => ?_)
          · skip
            refine g_iload_n C 53 1 dX7_readLine_53 rfl ?_
            refine g_bipush C 54 9 dX7_readLine_54 rfl ?_
            refine g_icmp_ne C 56 75 dX7_readLine_56 (by decide) ?_ ?_
            · skip
              exact g_sub _ [0, 1] rfl (hJ75 u20)
            · skip
              refine g_aload_n C 59 0 dX7_readLine_59 rfl ?_
              refine gfM_X7_readPage C 60 iX7 (List.mem_cons_of_mem _ (List.mem_append_right _ wgL_5_16.1)) dX7_readLine_60 ?_
              refine g_bipush C 63 46 dX7_readLine_63 rfl ?_
              refine g_iald C 65 (1 + 2) 0 (wM_arr 2 (by decide)) rfl dX7_readLine_65 ?_
              refine g_iconst C 66 4 dX7_readLine_66 rfl ?_
              refine g_icmp_ne C 67 75 dX7_readLine_67 (by decide) ?_ ?_
              · skip
                exact g_sub _ [0, 1] rfl (hJ75 u20)
              · skip
                exact g_sub _ [0, 1] rfl (hJ70 u20)
          · skip
            refine g_icmp_gt C 42 53 dX7_readLine_42 (by decide) ?_ ?_
            · skip
              exact g_sub _ [0, 1] rfl (hJ53 u19)
            · skip
              refine g_aload_n C 45 0 dX7_readLine_45 rfl ?_
              refine gfM_X7_readJudges C 46 iX7 (List.mem_cons_of_mem _ (List.mem_append_right _ wgL_15_9.1)) dX7_readLine_46 ?_
              refine g_iconst C 49 3 dX7_readLine_49 rfl ?_
              refine g_icmp_eq C 50 70 dX7_readLine_50 (by decide) ?_ ?_
              · skip
                exact g_sub _ [0, 1] rfl (hJ70 u19)
              · skip
                exact g_sub _ [0, 1] rfl (hJ53 u19)
        · skip
          refine g_icmp_ne C 28 39 dX7_readLine_28 (by decide) ?_ ?_
          · skip
            exact g_sub _ [1, 0] rfl (hJ39 u3)
          · skip
            refine g_aload_n C 31 1 dX7_readLine_31 rfl ?_
            refine gfM_X7_readCases C 32 iX7 (List.mem_cons_of_mem _ (List.mem_append_right _ wgL_15_8.1)) dX7_readLine_32 ?_
            refine g_iconst C 35 4 dX7_readLine_35 rfl ?_
            refine g_icmp_eq C 36 70 dX7_readLine_36 (by decide) ?_ ?_
            · skip
              exact g_sub _ [1, 0] rfl (hJ70 u3)
            · skip
              exact g_sub _ [1, 0] rfl (hJ39 u3)
  · skip
    refine g_aload_n C 19 1 dX7_readLine_19 rfl ?_
    refine g_iconst C 20 2 dX7_readLine_20 rfl ?_
    refine g_callVv (st := []) (As := [.int 2]) C E0_ok E0_vm 21 0 1 (tX7_fails F 2 u3) rfl gX7_readLine_X7_fails rfl rfl rfl (by decide +kernel) ⟨Nat.le_of_ble_eq_true rfl, Nat.le_of_ble_eq_true rfl⟩ rfl rfl rfl (Nat.le_of_ble_eq_true rfl) dX7_readLine_21 (fun u21 => ?_)
    exact g_vret C 24 dX7_readLine_24
