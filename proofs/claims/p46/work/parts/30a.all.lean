section
def pX7_in (F : Nat) (p1 : Int64) (p2 : Int64) (p3 : Int64) (u : St) : Option (Int32 × St) :=
  if (lg_cmp p1 p2) < 0 then some (0, u) else if 0 < (lg_cmp p1 p3) then some (0, u) else some (1, u)
set_option maxRecDepth 100000 in
set_option maxHeartbeats 4000000 in
theorem tX7_in {l : Launch} {D : va_G} {cI cZ : ClassId} {ad : Nat → Nat} (F : Nat) (p1 : Int64) (p2 : Int64) (p3 : Int64) (u : St) : CtI l D [(cI, .int), (cZ, .boolean)] (wM ad cI cZ) E0 yX7_in wsX7_in ({ frames := 0, cells := 0, slots := 0, locals := 0 } : Room) [.long p1, .long p2, .long p3] u (pX7_in F p1 p2 p3 u) := by
  refine ctI_of (own := RX7) (cc := cX7_in) (n := 6) (ret := (some .boolean)) (by decide) rfl rfl (Nat.le_of_ble_eq_true rfl) (lv := [(0, .long p1), (2, .long p2), (4, .long p3)]) rfl (fun C => ?_)
  rw [pX7_in]
  refine g_lload_n C 0 0 dX7_in_0 rfl ?_
  refine g_lload_n C 1 1 dX7_in_1 rfl ?_
  refine g_lcmp C 2 dX7_in_2 ?_
  refine g_if_lt C 3 17 dX7_in_3 (by decide) ?_ ?_
  · skip
    refine g_iconst C 17 0 dX7_in_17 rfl ?_
    exact g_nret C 18 rfl dX7_in_18
  · skip
    refine g_lload_n C 6 0 dX7_in_6 rfl ?_
    refine g_lload C 7 2 dX7_in_7 rfl ?_
    refine g_lcmp C 9 dX7_in_9 ?_
    refine g_if_gt C 10 17 dX7_in_10 (by decide) ?_ ?_
    · skip
      refine g_iconst C 17 0 dX7_in_17 rfl ?_
      exact g_nret C 18 rfl dX7_in_18
    · skip
      refine g_iconst C 13 1 dX7_in_13 rfl ?_
      refine g_goto C 14 18 dX7_in_14 (by decide) ?_
      exact g_nret C 18 rfl dX7_in_18
def pX7_feed (F : Nat) (p1 : Int32) (u : St) : Option (Int32 × St) :=
  bd (pX7_in F (Int32.toInt64 p1) 0 127 u) (fun (r2 : Int32) (u1 : St) => if r2 = 0 then some ((-1), u1) else if (u1.1 7) = 160 then some ((-3), u1) else gd (inb (u1.1 7) 160) (vl (sta u1 3 (u1.1 7) p1) (fun (u3 : St) => vl (stf u3 7 ((u3.1 7) + 1)) (fun (u4 : St) => some ((u4.1 7), u4)))))
set_option maxRecDepth 100000 in
set_option maxHeartbeats 4000000 in
theorem tX7_feed {l : Launch} {D : va_G} {cI cZ : ClassId} {ad : Nat → Nat} (F : Nat) (p1 : Int32) (u : St) : CtI l D [(cI, .int), (cZ, .boolean)] (wM ad cI cZ) E0 yX7_feed wsX7_feed ({ frames := 1, cells := 0, slots := 0, locals := 25 } : Room) [.ref (ad 0), .int p1] u (pX7_feed F p1 u) := by
  refine ctI_of (own := RX7) (cc := cX7_feed) (n := 2) (ret := (some .int)) (by decide) rfl rfl (Nat.le_of_ble_eq_true rfl) (lv := [(0, .ref (ad 0)), (1, .int p1)]) rfl (fun C => ?_)
  have iX7 : ∀ w ∈ wsX70, w ∈ wsX7_feed := fun w h => List.mem_cons_of_mem _ (List.mem_append_right _ (inlX7 w h))
  rw [pX7_feed]
  refine g_iload_n C 0 1 dX7_feed_0 rfl ?_
  refine g_i2l C 1 dX7_feed_1 ?_
  refine g_lconst C 2 0 dX7_feed_2 rfl ?_
  refine g_ldc2 C 3 127 (by decide +kernel) dX7_feed_3 ?_
  refine g_callSi (st := []) (As := [.long (Int32.toInt64 p1), .long 0, .long 127]) C E0_ok E0_vm 6 3 (tX7_in F (Int32.toInt64 p1) 0 127 u) rfl gX7_feed_X7_in rfl rfl rfl (by decide +kernel) ⟨Nat.le_of_ble_eq_true rfl, Nat.le_of_ble_eq_true rfl⟩ rfl (Nat.le_of_ble_eq_true rfl) dX7_feed_6 (fun r2 u1 => ?_)
  refine g_if_ne C 9 14 dX7_feed_9 (by decide) ?_ ?_
  · skip
    refine g_aload_n C 14 0 dX7_feed_14 rfl ?_
    refine gfM_X7_taped C 15 iX7 (List.mem_cons_of_mem _ (List.mem_append_right _ wgL_6_20.1)) dX7_feed_15 ?_
    refine g_sipush C 18 160 dX7_feed_18 rfl ?_
    refine g_icmp_ne C 21 27 dX7_feed_21 (by decide) ?_ ?_
    · skip
      refine g_aload_n C 27 0 dX7_feed_27 rfl ?_
      refine gfM_X7_tape C 28 iX7 (List.mem_cons_of_mem _ (List.mem_append_right _ wgL_5_17.1)) dX7_feed_28 ?_
      refine g_aload_n C 31 0 dX7_feed_31 rfl ?_
      refine gfM_X7_taped C 32 iX7 (List.mem_cons_of_mem _ (List.mem_append_right _ wgL_6_20.1)) dX7_feed_32 ?_
      refine g_iload_n C 35 1 dX7_feed_35 rfl ?_
      refine g_iast C 36 (1 + 3) 0 3 (wM_arr 3 (by decide)) (wM_aset 3 (by decide)) rfl dX7_feed_36 (fun u3 => ?_)
      refine g_aload_n C 37 0 dX7_feed_37 rfl ?_
      refine g_dup C 38 dX7_feed_38 rfl ?_
      refine gfM_X7_taped C 39 iX7 (List.mem_cons_of_mem _ (List.mem_append_right _ wgL_6_20.1)) dX7_feed_39 ?_
      refine g_iconst C 42 1 dX7_feed_42 rfl ?_
      refine g_iadd C 43 dX7_feed_43 ?_
      refine pfM_X7_taped C 44 iX7 (List.mem_cons_of_mem _ (List.mem_append_right _ wgL_6_20.1)) dX7_feed_44 (fun u4 => ?_)
      refine g_aload_n C 47 0 dX7_feed_47 rfl ?_
      refine gfM_X7_taped C 48 iX7 (List.mem_cons_of_mem _ (List.mem_append_right _ wgL_6_20.1)) dX7_feed_48 ?_
      exact g_iret C 51 dX7_feed_51
    · skip
      refine g_bipush C 24 (-3) dX7_feed_24 rfl ?_
      exact g_iret C 26 dX7_feed_26
  · skip
    refine g_iconst C 12 (-1) dX7_feed_12 rfl ?_
    exact g_iret C 13 dX7_feed_13
def pX7_end (F : Nat) (p1 : Int32) (u : St) : Option (Int32 × St) :=
  bd (pX7_in F (Int32.toInt64 p1) 0 (Int32.toInt64 (u.1 7)) u) (fun (r2 : Int32) (u1 : St) => if r2 = 0 then some ((-1), u1) else vl (u1.1 7) (fun v3 => vl (stf u1 7 p1) (fun (u4 : St) => some (v3, u4))))
set_option maxRecDepth 100000 in
set_option maxHeartbeats 4000000 in
theorem tX7_end {l : Launch} {D : va_G} {cI cZ : ClassId} {ad : Nat → Nat} (F : Nat) (p1 : Int32) (u : St) : CtI l D [(cI, .int), (cZ, .boolean)] (wM ad cI cZ) E0 yX7_end wsX7_end ({ frames := 1, cells := 0, slots := 0, locals := 25 } : Room) [.ref (ad 0), .int p1] u (pX7_end F p1 u) := by
  refine ctI_of (own := RX7) (cc := cX7_end) (n := 3) (ret := (some .int)) (by decide) rfl rfl (Nat.le_of_ble_eq_true rfl) (lv := [(0, .ref (ad 0)), (1, .int p1)]) rfl (fun C => ?_)
  have iX7 : ∀ w ∈ wsX70, w ∈ wsX7_end := fun w h => List.mem_cons_of_mem _ (List.mem_append_right _ (inlX7 w h))
  rw [pX7_end]
  refine g_iload_n C 0 1 dX7_end_0 rfl ?_
  refine g_i2l C 1 dX7_end_1 ?_
  refine g_lconst C 2 0 dX7_end_2 rfl ?_
  refine g_aload_n C 3 0 dX7_end_3 rfl ?_
  refine gfM_X7_taped C 4 iX7 (List.mem_cons_of_mem _ (List.mem_append_right _ wgL_6_20.1)) dX7_end_4 ?_
  refine g_i2l C 7 dX7_end_7 ?_
  refine g_callSi (st := []) (As := [.long (Int32.toInt64 p1), .long 0, .long (Int32.toInt64 (u.1 7))]) C E0_ok E0_vm 8 3 (tX7_in F (Int32.toInt64 p1) 0 (Int32.toInt64 (u.1 7)) u) rfl gX7_end_X7_in rfl rfl rfl (by decide +kernel) ⟨Nat.le_of_ble_eq_true rfl, Nat.le_of_ble_eq_true rfl⟩ rfl (Nat.le_of_ble_eq_true rfl) dX7_end_8 (fun r2 u1 => ?_)
  refine g_if_ne C 11 16 dX7_end_11 (by decide) ?_ ?_
  · skip
    refine g_aload_n C 16 0 dX7_end_16 rfl ?_
    refine gfM_X7_taped C 17 iX7 (List.mem_cons_of_mem _ (List.mem_append_right _ wgL_6_20.1)) dX7_end_17 ?_
    refine g_istore_nV C 20 (fun v3 => [(2, .int v3), (0, .ref (ad 0)), (1, .int p1)]) dX7_end_20 (by decide) (fun _ => rfl) (fun v3 => ?_)
    refine g_aload_n C 21 1 dX7_end_21 rfl ?_
    refine g_iload_n C 22 2 dX7_end_22 rfl ?_
    refine pfM_X7_taped C 23 iX7 (List.mem_cons_of_mem _ (List.mem_append_right _ wgL_6_20.1)) dX7_end_23 (fun u4 => ?_)
    refine g_iload_n C 26 0 dX7_end_26 rfl ?_
    exact g_iret C 27 dX7_end_27
  · skip
    refine g_iconst C 14 (-1) dX7_end_14 rfl ?_
    exact g_iret C 15 dX7_end_15
def pX7_byteAt (F : Nat) (p1 : Int32) (u : St) : Option (Int32 × St) :=
  if (u.1 7) ≤ p1 then some ((-4), u) else gd (inb p1 160) (some ((u.2 3 (Int32.toNatClampNeg p1)), u))
set_option maxRecDepth 100000 in
set_option maxHeartbeats 4000000 in
theorem tX7_byteAt {l : Launch} {D : va_G} {cI cZ : ClassId} {ad : Nat → Nat} (F : Nat) (p1 : Int32) (u : St) : CtI l D [(cI, .int), (cZ, .boolean)] (wM ad cI cZ) E0 yX7_byteAt wsX7_byteAt ({ frames := 0, cells := 0, slots := 0, locals := 0 } : Room) [.ref (ad 0), .int p1] u (pX7_byteAt F p1 u) := by
  refine ctI_of (own := RX7) (cc := cX7_byteAt) (n := 2) (ret := (some .int)) (by decide) rfl rfl (Nat.le_of_ble_eq_true rfl) (lv := [(0, .ref (ad 0)), (1, .int p1)]) rfl (fun C => ?_)
  have iX7 : ∀ w ∈ wsX70, w ∈ wsX7_byteAt := fun w h => List.mem_cons_of_mem _ (List.mem_append_right _ (inlX7 w h))
  rw [pX7_byteAt]
  refine g_iload_n C 0 1 dX7_byteAt_0 rfl ?_
  refine g_aload_n C 1 0 dX7_byteAt_1 rfl ?_
  refine gfM_X7_taped C 2 iX7 (List.mem_cons_of_mem _ (List.mem_append_right _ wgL_6_20.1)) dX7_byteAt_2 ?_
  refine g_icmp_ge C 5 17 dX7_byteAt_5 (by decide) ?_ ?_
  · skip
    refine g_bipush C 17 (-4) dX7_byteAt_17 rfl ?_
    exact g_iret C 19 dX7_byteAt_19
  · skip
    refine g_aload_n C 8 0 dX7_byteAt_8 rfl ?_
    refine gfM_X7_tape C 9 iX7 (List.mem_cons_of_mem _ (List.mem_append_right _ wgL_5_17.1)) dX7_byteAt_9 ?_
    refine g_iload_n C 12 1 dX7_byteAt_12 rfl ?_
    refine g_iald C 13 (1 + 3) 0 (wM_arr 3 (by decide)) rfl dX7_byteAt_13 ?_
    refine g_goto C 14 19 dX7_byteAt_14 (by decide) ?_
    exact g_iret C 19 dX7_byteAt_19
def pX7_fails (F : Nat) (p1 : Int32) (u : St) : Option (Unit × St) :=
  if (u.1 9) = 0 then vl (stf u 9 p1) (fun (u1 : St) => vl (stf u1 10 (u1.1 12)) (fun (u2 : St) => some ((), u2))) else some ((), u)
set_option maxRecDepth 100000 in
set_option maxHeartbeats 4000000 in
theorem tX7_fails {l : Launch} {D : va_G} {cI cZ : ClassId} {ad : Nat → Nat} (F : Nat) (p1 : Int32) (u : St) : CtV l D [(cI, .int), (cZ, .boolean)] (wM ad cI cZ) E0 yX7_fails wsX7_fails ({ frames := 0, cells := 0, slots := 0, locals := 0 } : Room) [.ref (ad 0), .int p1] u (pX7_fails F p1 u) := by
  refine ctV_of (own := RX7) (cc := cX7_fails) (n := 2) (ret := none) (by decide) rfl rfl (Nat.le_of_ble_eq_true rfl) (lv := [(0, .ref (ad 0)), (1, .int p1)]) rfl (fun C => ?_)
  have iX7 : ∀ w ∈ wsX70, w ∈ wsX7_fails := fun w h => List.mem_cons_of_mem _ (List.mem_append_right _ (inlX7 w h))
  rw [pX7_fails]
  refine g_aload_n C 0 0 dX7_fails_0 rfl ?_
  refine gfM_X7_broken C 1 iX7 (List.mem_cons_of_mem _ (List.mem_append_right _ wgL_15_6.1)) dX7_fails_1 ?_
  refine g_if_ne C 4 20 dX7_fails_4 (by decide) ?_ ?_
  · skip
    exact g_vret C 20 dX7_fails_20
  · skip
    refine g_aload_n C 7 0 dX7_fails_7 rfl ?_
    refine g_iload_n C 8 1 dX7_fails_8 rfl ?_
    refine pfM_X7_broken C 9 iX7 (List.mem_cons_of_mem _ (List.mem_append_right _ wgL_15_6.1)) dX7_fails_9 (fun u1 => ?_)
    refine g_aload_n C 12 0 dX7_fails_12 rfl ?_
    refine g_aload_n C 13 0 dX7_fails_13 rfl ?_
    refine gfM_X7_here C 14 iX7 (List.mem_cons_of_mem _ (List.mem_append_right _ wgL_15_23.1)) dX7_fails_14 ?_
    refine pfM_X7_brokenAt C 17 iX7 (List.mem_cons_of_mem _ (List.mem_append_right _ wgL_15_15.1)) dX7_fails_17 (fun u2 => ?_)
    exact g_vret C 20 dX7_fails_20
def jX7_nameHere_106 (F : Nat) (x1 : Int32) (self3 : Int32 → St → Option (Int32 × St)) (a6 : Int32) (u7 : St) : Option (Int32 × St) :=
  if a6 = 0 then (self3 (x1 + 1) u7) else some (x1, u7)
def bX7_nameHere_51 (F : Nat) (x1 : Int32) (J106 : Int32 → St → Option (Int32 × St)) (self11 : Int32 → Int32 → St → Option (Int32 × St)) (x8 : Int32) (x9 : Int32) (u10 : St) : Option (Int32 × St) :=
  if x8 = 0 then (J106 x8 u10) else if ((u10.1 11) - (u10.1 12)) ≤ x9 then (J106 x8 u10) else bd (pX7_byteAt F ((u10.1 12) + x9) u10) (fun (r13 : Int32) (u12 : St) => gd (inb x1 12) (gd (inb ((u12.2 4 (Int32.toNatClampNeg x1)) + x9) 53) (jn (fun (a14 : Int32) (u15 : St) => (self11 a14 (x9 + 1) u15)) (fun (J99 : Int32 → St → Option (Int32 × St)) => if r13 = (u12.2 5 (Int32.toNatClampNeg ((u12.2 4 (Int32.toNatClampNeg x1)) + x9))) then (J99 1 u12) else (J99 0 u12)))))
def bX7_nameHere_2 (F : Nat)  (self3 : Int32 → St → Option (Int32 × St)) (x1 : Int32) (u2 : St) : Option (Int32 × St) :=
  if 11 ≤ x1 then some ((-4), u2) else if (u2.1 13) = 1 then gd (inb (x1 + 1) 12) (gd (inb x1 12) (jn (fun (a4 : Int32) (u5 : St) => jn (jX7_nameHere_106 F x1 self3) (fun (J106 : Int32 → St → Option (Int32 × St)) => (lq2 (bX7_nameHere_51 F x1 J106) F a4 0 u5))) (fun (J48 : Int32 → St → Option (Int32 × St)) => if ((u2.1 11) - (u2.1 12)) = ((u2.2 4 (Int32.toNatClampNeg (x1 + 1))) - (u2.2 4 (Int32.toNatClampNeg x1))) then (J48 1 u2) else (J48 0 u2)))) else some ((-4), u2)
def pX7_nameHere (F : Nat)  (u : St) : Option (Int32 × St) :=
  (lq1 (bX7_nameHere_2 F) F 0 u)
set_option maxRecDepth 100000 in
set_option maxHeartbeats 4000000 in
theorem tX7_nameHere {l : Launch} {D : va_G} {cI cZ : ClassId} {ad : Nat → Nat} (F : Nat)  (u : St) : CtI l D [(cI, .int), (cZ, .boolean)] (wM ad cI cZ) E0 yX7_nameHere wsX7_nameHere ({ frames := 1, cells := 0, slots := 0, locals := 21 } : Room) [.ref (ad 0)] u (pX7_nameHere F u) := by
  refine ctI_of (own := RX7) (cc := cX7_nameHere) (n := 4) (ret := (some .int)) (by decide) rfl rfl (Nat.le_of_ble_eq_true rfl) (lv := [(0, .ref (ad 0))]) rfl (fun C => ?_)
  have iX7 : ∀ w ∈ wsX70, w ∈ wsX7_nameHere := fun w h => List.mem_cons_of_mem _ (List.mem_append_right _ (inlX7 w h))
  rw [pX7_nameHere]
  refine g_iconst C 0 0 dX7_nameHere_0 rfl ?_
  refine g_istore_n C 1 [(1, .int 0), (0, .ref (ad 0))] dX7_nameHere_1 (by decide) rfl ?_
  refine g_sub _ [1, 0] rfl ?_
  refine g_lq1 (fun (x1 : Int32) => [(0, .ref (ad 0)), (1, .int x1)]) (fun self3 hself3 x1 u2 => ?_) F 0 u
  rw [bX7_nameHere_2]
  refine g_iload_n C 2 1 dX7_nameHere_2 rfl ?_
  refine g_bipush C 3 11 dX7_nameHere_3 rfl ?_
  refine g_icmp_ge C 5 118 dX7_nameHere_5 (by decide) ?_ ?_
  · skip
    refine g_bipush C 118 (-4) dX7_nameHere_118 rfl ?_
    exact g_iret C 120 dX7_nameHere_120
  · skip
    refine g_aload_n C 8 0 dX7_nameHere_8 rfl ?_
    refine gfM_X7_token C 9 iX7 (List.mem_cons_of_mem _ (List.mem_append_right _ wgL_15_13.1)) dX7_nameHere_9 ?_
    refine g_iconst C 12 1 dX7_nameHere_12 rfl ?_
    refine g_icmp_ne C 13 118 dX7_nameHere_13 (by decide) ?_ ?_
    · skip
      refine g_bipush C 118 (-4) dX7_nameHere_118 rfl ?_
      exact g_iret C 120 dX7_nameHere_120
    · skip
      refine g_aload_n C 16 0 dX7_nameHere_16 rfl ?_
      refine gfM_X7_spot C 17 iX7 (List.mem_cons_of_mem _ (List.mem_append_right _ wgL_15_7.1)) dX7_nameHere_17 ?_
      refine g_aload_n C 20 0 dX7_nameHere_20 rfl ?_
      refine gfM_X7_here C 21 iX7 (List.mem_cons_of_mem _ (List.mem_append_right _ wgL_15_23.1)) dX7_nameHere_21 ?_
      refine g_isub C 24 dX7_nameHere_24 ?_
      refine g_aload_n C 25 0 dX7_nameHere_25 rfl ?_
      refine gfM_X7_cuts C 26 iX7 (List.mem_cons_of_mem _ (List.mem_append_right _ wgL_5_18.1)) dX7_nameHere_26 ?_
      refine g_iload_n C 29 1 dX7_nameHere_29 rfl ?_
      refine g_iconst C 30 1 dX7_nameHere_30 rfl ?_
      refine g_iadd C 31 dX7_nameHere_31 ?_
      refine g_iald C 32 (1 + 4) 0 (wM_arr 4 (by decide)) rfl dX7_nameHere_32 ?_
      refine g_aload_n C 33 0 dX7_nameHere_33 rfl ?_
      refine gfM_X7_cuts C 34 iX7 (List.mem_cons_of_mem _ (List.mem_append_right _ wgL_5_18.1)) dX7_nameHere_34 ?_
      refine g_iload_n C 37 1 dX7_nameHere_37 rfl ?_
      refine g_iald C 38 (1 + 4) 0 (wM_arr 4 (by decide)) rfl dX7_nameHere_38 ?_
      refine g_isub C 39 dX7_nameHere_39 ?_
      refine g_jn1 48 (fun (a4 : Int32) => [(0, .ref (ad 0)), (1, .int x1)]) (fun (a4 : Int32) => [.int a4]) (fun a4 u5 => ?_) (fun J48 hJ48 => ?_)
      · skip
        refine g_istore_n C 48 [(2, .int a4), (0, .ref (ad 0)), (1, .int x1)] dX7_nameHere_48 (by decide) rfl ?_
        refine g_iconst C 49 0 dX7_nameHere_49 rfl ?_
        refine g_istore_n C 50 [(3, .int 0), (2, .int a4), (0, .ref (ad 0)), (1, .int x1)] dX7_nameHere_50 (by decide) rfl ?_
        refine g_jn1 106 (fun (a6 : Int32) => [(0, .ref (ad 0)), (1, .int x1), (2, .int a6)]) (fun (a6 : Int32) => []) (fun a6 u7 => ?_) (fun J106 hJ106 => ?_)
        · skip
          rw [jX7_nameHere_106]
          refine g_iload_n C 106 2 dX7_nameHere_106 rfl ?_
          refine g_if_eq C 107 112 dX7_nameHere_107 (by decide) ?_ ?_
          · skip
            refine g_iinc C 112 1 [(1, .int (x1 + 1)), (0, .ref (ad 0)), (2, .int a6)] dX7_nameHere_112 rfl rfl (by decide) rfl ?_
            refine g_goto C 115 2 dX7_nameHere_115 (by decide) ?_
            exact g_sub _ [1, 0] rfl (hself3 (x1 + 1) u7)
          · skip
            refine g_iload_n C 110 1 dX7_nameHere_110 rfl ?_
            exact g_iret C 111 dX7_nameHere_111
        · skip
          refine g_sub _ [2, 3, 1, 0] rfl ?_
          refine g_lq2 (fun (x8 : Int32) (x9 : Int32) => [(0, .ref (ad 0)), (1, .int x1), (2, .int x8), (3, .int x9)]) (fun self11 hself11 x8 x9 u10 => ?_) F a4 0 u5
          rw [bX7_nameHere_51]
          refine g_iload_n C 51 2 dX7_nameHere_51 rfl ?_
          refine g_if_eq C 52 106 dX7_nameHere_52 (by decide) ?_ ?_
          · skip
            exact g_sub _ [0, 1, 2] rfl (hJ106 x8 u10)
          · skip
            refine g_iload_n C 55 3 dX7_nameHere_55 rfl ?_
            refine g_aload_n C 56 0 dX7_nameHere_56 rfl ?_
            refine gfM_X7_spot C 57 iX7 (List.mem_cons_of_mem _ (List.mem_append_right _ wgL_15_7.1)) dX7_nameHere_57 ?_
            refine g_aload_n C 60 0 dX7_nameHere_60 rfl ?_
            refine gfM_X7_here C 61 iX7 (List.mem_cons_of_mem _ (List.mem_append_right _ wgL_15_23.1)) dX7_nameHere_61 ?_
            refine g_isub C 64 dX7_nameHere_64 ?_
            refine g_icmp_ge C 65 106 dX7_nameHere_65 (by decide) ?_ ?_
            · skip
              exact g_sub _ [0, 1, 2] rfl (hJ106 x8 u10)
            · skip
              refine g_aload_n C 68 0 dX7_nameHere_68 rfl ?_
              refine g_aload_n C 69 0 dX7_nameHere_69 rfl ?_
              refine gfM_X7_here C 70 iX7 (List.mem_cons_of_mem _ (List.mem_append_right _ wgL_15_23.1)) dX7_nameHere_70 ?_
              refine g_iload_n C 73 3 dX7_nameHere_73 rfl ?_
              refine g_iadd C 74 dX7_nameHere_74 ?_
              refine g_callVi (st := []) (As := [.int ((u10.1 12) + x9)]) C E0_ok E0_vm 75 0 1 (tX7_byteAt F ((u10.1 12) + x9) u10) rfl gX7_nameHere_X7_byteAt rfl rfl rfl (by decide +kernel) ⟨Nat.le_of_ble_eq_true rfl, Nat.le_of_ble_eq_true rfl⟩ rfl rfl rfl (Nat.le_of_ble_eq_true rfl) dX7_nameHere_75 (fun r13 u12 => ?_)
              refine g_aload_n C 78 0 dX7_nameHere_78 rfl ?_
              refine gfM_X7_letters C 79 iX7 (List.mem_cons_of_mem _ (List.mem_append_right _ wgL_5_19.1)) dX7_nameHere_79 ?_
              refine g_aload_n C 82 0 dX7_nameHere_82 rfl ?_
              refine gfM_X7_cuts C 83 iX7 (List.mem_cons_of_mem _ (List.mem_append_right _ wgL_5_18.1)) dX7_nameHere_83 ?_
              refine g_iload_n C 86 1 dX7_nameHere_86 rfl ?_
              refine g_iald C 87 (1 + 4) 0 (wM_arr 4 (by decide)) rfl dX7_nameHere_87 ?_
              refine g_iload_n C 88 3 dX7_nameHere_88 rfl ?_
              refine g_iadd C 89 dX7_nameHere_89 ?_
              refine g_iald C 90 (1 + 5) 0 (wM_arr 5 (by decide)) rfl dX7_nameHere_90 ?_
              refine g_jn1 99 (fun (a14 : Int32) => [(0, .ref (ad 0)), (1, .int x1), (3, .int x9)]) (fun (a14 : Int32) => [.int a14]) (fun a14 u15 => ?_) (fun J99 hJ99 => ?_)
              · skip
                refine g_istore_n C 99 [(2, .int a14), (0, .ref (ad 0)), (1, .int x1), (3, .int x9)] dX7_nameHere_99 (by decide) rfl ?_
                refine g_iinc C 100 3 [(3, .int (x9 + 1)), (2, .int a14), (0, .ref (ad 0)), (1, .int x1)] dX7_nameHere_100 rfl rfl (by decide) rfl ?_
                refine g_goto C 103 51 dX7_nameHere_103 (by decide) ?_
                exact g_sub _ [2, 3, 1, 0] rfl (hself11 a14 (x9 + 1) u15)
              · skip
                refine g_icmp_ne C 91 98 dX7_nameHere_91 (by decide) ?_ ?_
                · skip
                  refine g_iconst C 98 0 dX7_nameHere_98 rfl ?_
                  exact g_sub _ [0, 1, 3] rfl (hJ99 0 u12)
                · skip
                  refine g_iconst C 94 1 dX7_nameHere_94 rfl ?_
                  refine g_goto C 95 99 dX7_nameHere_95 (by decide) ?_
                  exact g_sub _ [0, 1, 3] rfl (hJ99 1 u12)
      · skip
        refine g_icmp_ne C 40 47 dX7_nameHere_40 (by decide) ?_ ?_
        · skip
          refine g_iconst C 47 0 dX7_nameHere_47 rfl ?_
          exact g_sub _ [0, 1] rfl (hJ48 0 u2)
        · skip
          refine g_iconst C 43 1 dX7_nameHere_43 rfl ?_
          refine g_goto C 44 48 dX7_nameHere_44 (by decide) ?_
          exact g_sub _ [0, 1] rfl (hJ48 1 u2)
def jX7_step_217 (F : Nat)   (u13 : St) : Option (Unit × St) :=
  vl (stf u13 13 2) (fun (u14 : St) => if ((u14.1 11) - (u14.1 12)) ≤ 2 then some ((), u14) else bd (pX7_fails F 1 u14) (fun (_ : Unit) (u15 : St) => some ((), u15)))
def bX7_step_140 (F : Nat) (J217 : St → Option (Unit × St)) (self17 : St → Option (Unit × St))  (u16 : St) : Option (Unit × St) :=
  bd (pX7_byteAt F (u16.1 11) u16) (fun (r19 : Int32) (u18 : St) => bd (pX7_in F (Int32.toInt64 r19) 48 57 u18) (fun (r21 : Int32) (u20 : St) => if r21 = 0 then (J217 u20) else jn (fun (a22 : Int32) (u23 : St) => vl (stf u23 14 a22) (fun (u24 : St) => vl (stf u24 11 ((u24.1 11) + 1)) (fun (u25 : St) => (self17 u25)))) (fun (J201 : Int32 → St → Option (Unit × St)) => if 2 ≤ ((u20.1 11) - (u20.1 12)) then (J201 (u20.1 14) u20) else bd (pX7_byteAt F (u20.1 11) u20) (fun (r27 : Int32) (u26 : St) => (J201 (((10 * (u20.1 14)) + r27) - 48) u26)))))
def jX7_step_118 (F : Nat)   (u28 : St) : Option (Unit × St) :=
  vl (stf u28 13 1) (fun (u29 : St) => some ((), u29))
def bX7_step_84 (F : Nat) (J118 : St → Option (Unit × St)) (self31 : St → Option (Unit × St))  (u30 : St) : Option (Unit × St) :=
  bd (pX7_byteAt F (u30.1 11) u30) (fun (r33 : Int32) (u32 : St) => bd (pX7_in F (Int32.toInt64 r33) 97 122 u32) (fun (r35 : Int32) (u34 : St) => if r35 = 0 then (J118 u34) else vl (stf u34 11 ((u34.1 11) + 1)) (fun (u36 : St) => (self31 u36))))
def jX7_step_34 (F : Nat)   (u1 : St) : Option (Unit × St) :=
  vl (stf u1 12 (u1.1 11)) (fun (u2 : St) => bd (pX7_byteAt F (u2.1 11) u2) (fun (r4 : Int32) (u3 : St) => vl (stf u3 14 0) (fun (u5 : St) => if r4 = (-4) then vl (stf u5 13 0) (fun (u37 : St) => some ((), u37)) else bd (pX7_in F (Int32.toInt64 r4) 97 122 u5) (fun (r7 : Int32) (u6 : St) => if r7 = 0 then bd (pX7_in F (Int32.toInt64 r4) 48 57 u6) (fun (r9 : Int32) (u8 : St) => if r9 = 0 then vl (stf u8 13 3) (fun (u10 : St) => vl (stf u10 11 ((u10.1 11) + 1)) (fun (u11 : St) => if r4 = 59 then some ((), u11) else bd (pX7_fails F 1 u11) (fun (_ : Unit) (u12 : St) => some ((), u12)))) else jn (jX7_step_217 F) (fun (J217 : St → Option (Unit × St)) => (lp0 (bX7_step_140 F J217) F u8))) else jn (jX7_step_118 F) (fun (J118 : St → Option (Unit × St)) => (lp0 (bX7_step_84 F J118) F u6))))))
def bX7_step_8 (F : Nat) (J34 : St → Option (Unit × St)) (self39 : St → Option (Unit × St))  (u38 : St) : Option (Unit × St) :=
  bd (pX7_byteAt F (u38.1 11) u38) (fun (r41 : Int32) (u40 : St) => if r41 = 32 then vl (stf u40 11 ((u40.1 11) + 1)) (fun (u42 : St) => (self39 u42)) else (J34 u40))
def pX7_step (F : Nat)  (u : St) : Option (Unit × St) :=
  if (u.1 9) ≤ 0 then jn (jX7_step_34 F) (fun (J34 : St → Option (Unit × St)) => (lp0 (bX7_step_8 F J34) F u)) else some ((), u)
set_option maxRecDepth 100000 in
set_option maxHeartbeats 4000000 in
theorem tX7_step {l : Launch} {D : va_G} {cI cZ : ClassId} {ad : Nat → Nat} (F : Nat)  (u : St) : CtV l D [(cI, .int), (cZ, .boolean)] (wM ad cI cZ) E0 yX7_step wsX7_step ({ frames := 1, cells := 0, slots := 0, locals := 25 } : Room) [.ref (ad 0)] u (pX7_step F u) := by
  refine ctV_of (own := RX7) (cc := cX7_step) (n := 2) (ret := none) (by decide) rfl rfl (Nat.le_of_ble_eq_true rfl) (lv := [(0, .ref (ad 0))]) rfl (fun C => ?_)
  have iX7 : ∀ w ∈ wsX70, w ∈ wsX7_step := fun w h => List.mem_cons_of_mem _ (List.mem_append_right _ (inlX7 w h))
  rw [pX7_step]
  refine g_aload_n C 0 0 dX7_step_0 rfl ?_
  refine gfM_X7_broken C 1 iX7 (List.mem_cons_of_mem _ (List.mem_append_right _ wgL_15_6.1)) dX7_step_1 ?_
  refine g_if_le C 4 8 dX7_step_4 (by decide) ?_ ?_
  · skip
    refine g_jn0 34 ([(0, .ref (ad 0))]) ([]) (fun u1 => ?_) (fun J34 hJ34 => ?_)
    · skip
      rw [jX7_step_34]
      refine g_aload_n C 34 0 dX7_step_34 rfl ?_
      refine g_aload_n C 35 0 dX7_step_35 rfl ?_
      refine gfM_X7_spot C 36 iX7 (List.mem_cons_of_mem _ (List.mem_append_right _ wgL_15_7.1)) dX7_step_36 ?_
      refine pfM_X7_here C 39 iX7 (List.mem_cons_of_mem _ (List.mem_append_right _ wgL_15_23.1)) dX7_step_39 (fun u2 => ?_)
      refine g_aload_n C 42 0 dX7_step_42 rfl ?_
      refine g_aload_n C 43 0 dX7_step_43 rfl ?_
      refine gfM_X7_spot C 44 iX7 (List.mem_cons_of_mem _ (List.mem_append_right _ wgL_15_7.1)) dX7_step_44 ?_
      refine g_callVi (st := []) (As := [.int (u2.1 11)]) C E0_ok E0_vm 47 0 1 (tX7_byteAt F (u2.1 11) u2) rfl gX7_step_X7_byteAt rfl rfl rfl (by decide +kernel) ⟨Nat.le_of_ble_eq_true rfl, Nat.le_of_ble_eq_true rfl⟩ rfl rfl rfl (Nat.le_of_ble_eq_true rfl) dX7_step_47 (fun r4 u3 => ?_)
      refine g_istore_n C 50 [(1, .int r4), (0, .ref (ad 0))] dX7_step_50 (by decide) rfl ?_
      refine g_aload_n C 51 1 dX7_step_51 rfl ?_
      refine g_iconst C 52 0 dX7_step_52 rfl ?_
      refine pfM_X7_value C 53 iX7 (List.mem_cons_of_mem _ (List.mem_append_right _ wgL_16_0.1)) dX7_step_53 (fun u5 => ?_)
      refine g_iload_n C 56 0 dX7_step_56 rfl ?_
      refine g_bipush C 57 (-4) dX7_step_57 rfl ?_
      refine g_icmp_ne C 59 70 dX7_step_59 (by decide) ?_ ?_
      · skip
        refine g_iload_n C 70 0 dX7_step_70 rfl ?_
        refine g_i2l C 71 dX7_step_71 ?_
        refine g_ldc2 C 72 97 (by decide +kernel) dX7_step_72 ?_
        refine g_ldc2 C 75 122 (by decide +kernel) dX7_step_75 ?_
        refine g_callSi (st := []) (As := [.long (Int32.toInt64 r4), .long 97, .long 122]) C E0_ok E0_vm 78 3 (tX7_in F (Int32.toInt64 r4) 97 122 u5) rfl gX7_step_X7_in rfl rfl rfl (by decide +kernel) ⟨Nat.le_of_ble_eq_true rfl, Nat.le_of_ble_eq_true rfl⟩ rfl (Nat.le_of_ble_eq_true rfl) dX7_step_78 (fun r7 u6 => ?_)
        refine g_if_eq C 81 126 dX7_step_81 (by decide) ?_ ?_
        · skip
          refine g_iload_n C 126 0 dX7_step_126 rfl ?_
          refine g_i2l C 127 dX7_step_127 ?_
          refine g_ldc2 C 128 48 (by decide +kernel) dX7_step_128 ?_
          refine g_ldc2 C 131 57 (by decide +kernel) dX7_step_131 ?_
          refine g_callSi (st := []) (As := [.long (Int32.toInt64 r4), .long 48, .long 57]) C E0_ok E0_vm 134 3 (tX7_in F (Int32.toInt64 r4) 48 57 u6) rfl gX7_step_X7_in rfl rfl rfl (by decide +kernel) ⟨Nat.le_of_ble_eq_true rfl, Nat.le_of_ble_eq_true rfl⟩ rfl (Nat.le_of_ble_eq_true rfl) dX7_step_134 (fun r9 u8 => ?_)
          refine g_if_eq C 137 243 dX7_step_137 (by decide) ?_ ?_
          · skip
            refine g_aload_n C 243 1 dX7_step_243 rfl ?_
            refine g_iconst C 244 3 dX7_step_244 rfl ?_
            refine pfM_X7_token C 245 iX7 (List.mem_cons_of_mem _ (List.mem_append_right _ wgL_15_13.1)) dX7_step_245 (fun u10 => ?_)
            refine g_aload_n C 248 1 dX7_step_248 rfl ?_
            refine g_dup C 249 dX7_step_249 rfl ?_
            refine gfM_X7_spot C 250 iX7 (List.mem_cons_of_mem _ (List.mem_append_right _ wgL_15_7.1)) dX7_step_250 ?_
            refine g_iconst C 253 1 dX7_step_253 rfl ?_
            refine g_iadd C 254 dX7_step_254 ?_
            refine pfM_X7_spot C 255 iX7 (List.mem_cons_of_mem _ (List.mem_append_right _ wgL_15_7.1)) dX7_step_255 (fun u11 => ?_)
            refine g_iload_n C 258 0 dX7_step_258 rfl ?_
            refine g_bipush C 259 59 dX7_step_259 rfl ?_
            refine g_icmp_eq C 261 269 dX7_step_261 (by decide) ?_ ?_
            · skip
              exact g_vret C 269 dX7_step_269
            · skip
              refine g_aload_n C 264 1 dX7_step_264 rfl ?_
              refine g_iconst C 265 1 dX7_step_265 rfl ?_
              refine g_callVv (st := []) (As := [.int 1]) C E0_ok E0_vm 266 0 1 (tX7_fails F 1 u11) rfl gX7_step_X7_fails rfl rfl rfl (by decide +kernel) ⟨Nat.le_of_ble_eq_true rfl, Nat.le_of_ble_eq_true rfl⟩ rfl rfl rfl (Nat.le_of_ble_eq_true rfl) dX7_step_266 (fun u12 => ?_)
              exact g_vret C 269 dX7_step_269
          · skip
            refine g_jn0 217 ([(0, .ref (ad 0))]) ([]) (fun u13 => ?_) (fun J217 hJ217 => ?_)
            · skip
              rw [jX7_step_217]
              refine g_aload_n C 217 0 dX7_step_217 rfl ?_
              refine g_iconst C 218 2 dX7_step_218 rfl ?_
              refine pfM_X7_token C 219 iX7 (List.mem_cons_of_mem _ (List.mem_append_right _ wgL_15_13.1)) dX7_step_219 (fun u14 => ?_)
              refine g_aload_n C 222 0 dX7_step_222 rfl ?_
              refine gfM_X7_spot C 223 iX7 (List.mem_cons_of_mem _ (List.mem_append_right _ wgL_15_7.1)) dX7_step_223 ?_
              refine g_aload_n C 226 0 dX7_step_226 rfl ?_
              refine gfM_X7_here C 227 iX7 (List.mem_cons_of_mem _ (List.mem_append_right _ wgL_15_23.1)) dX7_step_227 ?_
              refine g_isub C 230 dX7_step_230 ?_
              refine g_iconst C 231 2 dX7_step_231 rfl ?_
              refine g_icmp_le C 232 269 dX7_step_232 (by decide) ?_ ?_
              · skip
                exact g_vret C 269 dX7_step_269
              · skip
                refine g_aload_n C 235 0 dX7_step_235 rfl ?_
                refine g_iconst C 236 1 dX7_step_236 rfl ?_
                refine g_callVv (st := []) (As := [.int 1]) C E0_ok E0_vm 237 0 1 (tX7_fails F 1 u14) rfl gX7_step_X7_fails rfl rfl rfl (by decide +kernel) ⟨Nat.le_of_ble_eq_true rfl, Nat.le_of_ble_eq_true rfl⟩ rfl rfl rfl (Nat.le_of_ble_eq_true rfl) dX7_step_237 (fun u15 => ?_)
                refine g_goto C 240 269 dX7_step_240 (by decide) ?_
                exact g_vret C 269 dX7_step_269
            · skip
              refine g_sub _ [1] rfl ?_
              refine g_lp0 (fun self17 hself17 u16 => ?_) F u8
              rw [bX7_step_140]
              refine g_aload_n C 140 0 dX7_step_140 rfl ?_
              refine g_aload_n C 141 0 dX7_step_141 rfl ?_
              refine gfM_X7_spot C 142 iX7 (List.mem_cons_of_mem _ (List.mem_append_right _ wgL_15_7.1)) dX7_step_142 ?_
              refine g_callVi (st := []) (As := [.int (u16.1 11)]) C E0_ok E0_vm 145 0 1 (tX7_byteAt F (u16.1 11) u16) rfl gX7_step_X7_byteAt rfl rfl rfl (by decide +kernel) ⟨Nat.le_of_ble_eq_true rfl, Nat.le_of_ble_eq_true rfl⟩ rfl rfl rfl (Nat.le_of_ble_eq_true rfl) dX7_step_145 (fun r19 u18 => ?_)
              refine g_i2l C 148 dX7_step_148 ?_
              refine g_ldc2 C 149 48 (by decide +kernel) dX7_step_149 ?_
              refine g_ldc2 C 152 57 (by decide +kernel) dX7_step_152 ?_
              refine g_callSi (st := []) (As := [.long (Int32.toInt64 r19), .long 48, .long 57]) C E0_ok E0_vm 155 3 (tX7_in F (Int32.toInt64 r19) 48 57 u18) rfl gX7_step_X7_in rfl rfl rfl (by decide +kernel) ⟨Nat.le_of_ble_eq_true rfl, Nat.le_of_ble_eq_true rfl⟩ rfl (Nat.le_of_ble_eq_true rfl) dX7_step_155 (fun r21 u20 => ?_)
              refine g_if_eq C 158 217 dX7_step_158 (by decide) ?_ ?_
              · skip
                exact g_sub _ [0] rfl (hJ217 u20)
              · skip
                refine g_aload_n C 161 0 dX7_step_161 rfl ?_
                refine g_aload_n C 162 0 dX7_step_162 rfl ?_
                refine gfM_X7_spot C 163 iX7 (List.mem_cons_of_mem _ (List.mem_append_right _ wgL_15_7.1)) dX7_step_163 ?_
                refine g_aload_n C 166 0 dX7_step_166 rfl ?_
                refine gfM_X7_here C 167 iX7 (List.mem_cons_of_mem _ (List.mem_append_right _ wgL_15_23.1)) dX7_step_167 ?_
                refine g_isub C 170 dX7_step_170 ?_
                refine g_iconst C 171 2 dX7_step_171 rfl ?_
                refine g_jn1 201 (fun (a22 : Int32) => [(0, .ref (ad 0))]) (fun (a22 : Int32) => [.int a22, .ref (ad 0)]) (fun a22 u23 => ?_) (fun J201 hJ201 => ?_)
                · skip
                  refine pfM_X7_value C 201 iX7 (List.mem_cons_of_mem _ (List.mem_append_right _ wgL_16_0.1)) dX7_step_201 (fun u24 => ?_)
                  refine g_aload_n C 204 0 dX7_step_204 rfl ?_
                  refine g_dup C 205 dX7_step_205 rfl ?_
                  refine gfM_X7_spot C 206 iX7 (List.mem_cons_of_mem _ (List.mem_append_right _ wgL_15_7.1)) dX7_step_206 ?_
                  refine g_iconst C 209 1 dX7_step_209 rfl ?_
                  refine g_iadd C 210 dX7_step_210 ?_
                  refine pfM_X7_spot C 211 iX7 (List.mem_cons_of_mem _ (List.mem_append_right _ wgL_15_7.1)) dX7_step_211 (fun u25 => ?_)
                  refine g_goto C 214 140 dX7_step_214 (by decide) ?_
                  exact g_sub _ [0] rfl (hself17 u25)
                · skip
                  refine g_icmp_ge C 172 197 dX7_step_172 (by decide) ?_ ?_
                  · skip
                    refine g_aload_n C 197 0 dX7_step_197 rfl ?_
                    refine gfM_X7_value C 198 iX7 (List.mem_cons_of_mem _ (List.mem_append_right _ wgL_16_0.1)) dX7_step_198 ?_
                    exact g_sub _ [0] rfl (hJ201 (u20.1 14) u20)
                  · skip
                    refine g_bipush C 175 10 dX7_step_175 rfl ?_
                    refine g_aload_n C 177 0 dX7_step_177 rfl ?_
                    refine gfM_X7_value C 178 iX7 (List.mem_cons_of_mem _ (List.mem_append_right _ wgL_16_0.1)) dX7_step_178 ?_
                    refine g_imul C 181 dX7_step_181 ?_
                    refine g_aload_n C 182 0 dX7_step_182 rfl ?_
                    refine g_aload_n C 183 0 dX7_step_183 rfl ?_
                    refine gfM_X7_spot C 184 iX7 (List.mem_cons_of_mem _ (List.mem_append_right _ wgL_15_7.1)) dX7_step_184 ?_
                    refine g_callVi (st := [.int (10 * (u20.1 14)), .ref (ad 0)]) (As := [.int (u20.1 11)]) C E0_ok E0_vm 187 0 1 (tX7_byteAt F (u20.1 11) u20) rfl gX7_step_X7_byteAt rfl rfl rfl (by decide +kernel) ⟨Nat.le_of_ble_eq_true rfl, Nat.le_of_ble_eq_true rfl⟩ rfl rfl rfl (Nat.le_of_ble_eq_true rfl) dX7_step_187 (fun r27 u26 => ?_)
                    refine g_iadd C 190 dX7_step_190 ?_
                    refine g_bipush C 191 48 dX7_step_191 rfl ?_
                    refine g_isub C 193 dX7_step_193 ?_
                    refine g_goto C 194 201 dX7_step_194 (by decide) ?_
                    exact g_sub _ [0] rfl (hJ201 (((10 * (u20.1 14)) + r27) - 48) u26)
        · skip
          refine g_jn0 118 ([(0, .ref (ad 0))]) ([]) (fun u28 => ?_) (fun J118 hJ118 => ?_)
          · skip
            rw [jX7_step_118]
            refine g_aload_n C 118 0 dX7_step_118 rfl ?_
            refine g_iconst C 119 1 dX7_step_119 rfl ?_
            refine pfM_X7_token C 120 iX7 (List.mem_cons_of_mem _ (List.mem_append_right _ wgL_15_13.1)) dX7_step_120 (fun u29 => ?_)
            refine g_goto C 123 269 dX7_step_123 (by decide) ?_
            exact g_vret C 269 dX7_step_269
          · skip
            refine g_sub _ [1] rfl ?_
            refine g_lp0 (fun self31 hself31 u30 => ?_) F u6
            rw [bX7_step_84]
            refine g_aload_n C 84 0 dX7_step_84 rfl ?_
            refine g_aload_n C 85 0 dX7_step_85 rfl ?_
            refine gfM_X7_spot C 86 iX7 (List.mem_cons_of_mem _ (List.mem_append_right _ wgL_15_7.1)) dX7_step_86 ?_
            refine g_callVi (st := []) (As := [.int (u30.1 11)]) C E0_ok E0_vm 89 0 1 (tX7_byteAt F (u30.1 11) u30) rfl gX7_step_X7_byteAt rfl rfl rfl (by decide +kernel) ⟨Nat.le_of_ble_eq_true rfl, Nat.le_of_ble_eq_true rfl⟩ rfl rfl rfl (Nat.le_of_ble_eq_true rfl) dX7_step_89 (fun r33 u32 => ?_)
            refine g_i2l C 92 dX7_step_92 ?_
            refine g_ldc2 C 93 97 (by decide +kernel) dX7_step_93 ?_
            refine g_ldc2 C 96 122 (by decide +kernel) dX7_step_96 ?_
            refine g_callSi (st := []) (As := [.long (Int32.toInt64 r33), .long 97, .long 122]) C E0_ok E0_vm 99 3 (tX7_in F (Int32.toInt64 r33) 97 122 u32) rfl gX7_step_X7_in rfl rfl rfl (by decide +kernel) ⟨Nat.le_of_ble_eq_true rfl, Nat.le_of_ble_eq_true rfl⟩ rfl (Nat.le_of_ble_eq_true rfl) dX7_step_99 (fun r35 u34 => ?_)
            refine g_if_eq C 102 118 dX7_step_102 (by decide) ?_ ?_
            · skip
              exact g_sub _ [0] rfl (hJ118 u34)
            · skip
              refine g_aload_n C 105 0 dX7_step_105 rfl ?_
              refine g_dup C 106 dX7_step_106 rfl ?_
              refine gfM_X7_spot C 107 iX7 (List.mem_cons_of_mem _ (List.mem_append_right _ wgL_15_7.1)) dX7_step_107 ?_
              refine g_iconst C 110 1 dX7_step_110 rfl ?_
              refine g_iadd C 111 dX7_step_111 ?_
              refine pfM_X7_spot C 112 iX7 (List.mem_cons_of_mem _ (List.mem_append_right _ wgL_15_7.1)) dX7_step_112 (fun u36 => ?_)
              refine g_goto C 115 84 dX7_step_115 (by decide) ?_
              exact g_sub _ [0] rfl (hself31 u36)
      · skip
        refine g_aload_n C 62 1 dX7_step_62 rfl ?_
        refine g_iconst C 63 0 dX7_step_63 rfl ?_
        refine pfM_X7_token C 64 iX7 (List.mem_cons_of_mem _ (List.mem_append_right _ wgL_15_13.1)) dX7_step_64 (fun u37 => ?_)
        refine g_goto C 67 269 dX7_step_67 (by decide) ?_
        exact g_vret C 269 dX7_step_269
    · skip
      refine g_sub _ [0] rfl ?_
      refine g_lp0 (fun self39 hself39 u38 => ?_) F u
      rw [bX7_step_8]
      refine g_aload_n C 8 0 dX7_step_8 rfl ?_
      refine g_aload_n C 9 0 dX7_step_9 rfl ?_
      refine gfM_X7_spot C 10 iX7 (List.mem_cons_of_mem _ (List.mem_append_right _ wgL_15_7.1)) dX7_step_10 ?_
      refine g_callVi (st := []) (As := [.int (u38.1 11)]) C E0_ok E0_vm 13 0 1 (tX7_byteAt F (u38.1 11) u38) rfl gX7_step_X7_byteAt rfl rfl rfl (by decide +kernel) ⟨Nat.le_of_ble_eq_true rfl, Nat.le_of_ble_eq_true rfl⟩ rfl rfl rfl (Nat.le_of_ble_eq_true rfl) dX7_step_13 (fun r41 u40 => ?_)
      refine g_bipush C 16 32 dX7_step_16 rfl ?_
      refine g_icmp_ne C 18 34 dX7_step_18 (by decide) ?_ ?_
      · skip
        exact g_sub _ [0] rfl (hJ34 u40)
      · skip
        refine g_aload_n C 21 0 dX7_step_21 rfl ?_
        refine g_dup C 22 dX7_step_22 rfl ?_
        refine gfM_X7_spot C 23 iX7 (List.mem_cons_of_mem _ (List.mem_append_right _ wgL_15_7.1)) dX7_step_23 ?_
        refine g_iconst C 26 1 dX7_step_26 rfl ?_
        refine g_iadd C 27 dX7_step_27 ?_
        refine pfM_X7_spot C 28 iX7 (List.mem_cons_of_mem _ (List.mem_append_right _ wgL_15_7.1)) dX7_step_28 (fun u42 => ?_)
        refine g_goto C 31 8 dX7_step_31 (by decide) ?_
        exact g_sub _ [0] rfl (hself39 u42)
  · skip
    exact g_vret C 7 dX7_step_7
def pX7_number (F : Nat) (p1 : Int32) (p2 : Int32) (u : St) : Option (Int32 × St) :=
  jn (fun (u1 : St) => jn (fun (u2 : St) => jn (fun (a3 : Int32) (u4 : St) => bd (pX7_step F u4) (fun (_ : Unit) (u5 : St) => some (a3, u5))) (fun (J62 : Int32 → St → Option (Int32 × St)) => if (u2.1 9) = 0 then (J62 (u2.1 14) u2) else (J62 p1 u2))) (fun (J47 : St → Option (Int32 × St)) => if (u1.1 9) = 0 then bd (pX7_in F (Int32.toInt64 (u1.1 14)) (Int32.toInt64 p1) (Int32.toInt64 p2) u1) (fun (r7 : Int32) (u6 : St) => if r7 = 0 then bd (pX7_fails F 3 u6) (fun (_ : Unit) (u8 : St) => (J47 u8)) else (J47 u6)) else (J47 u1))) (fun (J20 : St → Option (Int32 × St)) => if (u.1 9) = 0 then if (u.1 13) = 2 then (J20 u) else bd (pX7_fails F 2 u) (fun (_ : Unit) (u9 : St) => (J20 u9)) else (J20 u))
set_option maxRecDepth 100000 in
set_option maxHeartbeats 4000000 in
theorem tX7_number {l : Launch} {D : va_G} {cI cZ : ClassId} {ad : Nat → Nat} (F : Nat) (p1 : Int32) (p2 : Int32) (u : St) : CtI l D [(cI, .int), (cZ, .boolean)] (wM ad cI cZ) E0 yX7_number wsX7_number ({ frames := 2, cells := 0, slots := 0, locals := 46 } : Room) [.ref (ad 0), .int p1, .int p2] u (pX7_number F p1 p2 u) := by
  refine ctI_of (own := RX7) (cc := cX7_number) (n := 4) (ret := (some .int)) (by decide) rfl rfl (Nat.le_of_ble_eq_true rfl) (lv := [(0, .ref (ad 0)), (1, .int p1), (2, .int p2)]) rfl (fun C => ?_)
  have iX7 : ∀ w ∈ wsX70, w ∈ wsX7_number := fun w h => List.mem_cons_of_mem _ (List.mem_append_right _ (inlX7 w h))
  rw [pX7_number]
  refine g_aload_n C 0 0 dX7_number_0 rfl ?_
  refine gfM_X7_broken C 1 iX7 (List.mem_cons_of_mem _ (List.mem_append_right _ wgL_15_6.1)) dX7_number_1 ?_
  refine g_jn0 20 ([(0, .ref (ad 0)), (1, .int p1), (2, .int p2)]) ([]) (fun u1 => ?_) (fun J20 hJ20 => ?_)
  · skip
    refine g_aload_n C 20 0 dX7_number_20 rfl ?_
    refine gfM_X7_broken C 21 iX7 (List.mem_cons_of_mem _ (List.mem_append_right _ wgL_15_6.1)) dX7_number_21 ?_
    refine g_jn0 47 ([(0, .ref (ad 0)), (1, .int p1)]) ([]) (fun u2 => ?_) (fun J47 hJ47 => ?_)
    · skip
      refine g_aload_n C 47 0 dX7_number_47 rfl ?_
      refine gfM_X7_broken C 48 iX7 (List.mem_cons_of_mem _ (List.mem_append_right _ wgL_15_6.1)) dX7_number_48 ?_
      refine g_jn1 62 (fun (a3 : Int32) => [(0, .ref (ad 0))]) (fun (a3 : Int32) => [.int a3]) (fun a3 u4 => ?_) (fun J62 hJ62 => ?_)
      · skip
        refine g_istore_n C 62 [(3, .int a3), (0, .ref (ad 0))] dX7_number_62 (by decide) rfl ?_
        refine g_aload_n C 63 1 dX7_number_63 rfl ?_
        refine g_callVv (st := []) (As := []) C E0_ok E0_vm 64 0 0 (tX7_step F u4) rfl gX7_number_X7_step rfl rfl rfl (by decide +kernel) ⟨Nat.le_of_ble_eq_true rfl, Nat.le_of_ble_eq_true rfl⟩ rfl rfl rfl (Nat.le_of_ble_eq_true rfl) dX7_number_64 (fun u5 => ?_)
        refine g_iload_n C 67 0 dX7_number_67 rfl ?_
        exact g_iret C 68 dX7_number_68
      · skip
        refine g_if_ne C 51 61 dX7_number_51 (by decide) ?_ ?_
        · skip
          refine g_iload_n C 61 1 dX7_number_61 rfl ?_
          exact g_sub _ [0] rfl (hJ62 p1 u2)
        · skip
          refine g_aload_n C 54 0 dX7_number_54 rfl ?_
          refine gfM_X7_value C 55 iX7 (List.mem_cons_of_mem _ (List.mem_append_right _ wgL_16_0.1)) dX7_number_55 ?_
          refine g_goto C 58 62 dX7_number_58 (by decide) ?_
          exact g_sub _ [0] rfl (hJ62 (u2.1 14) u2)
    · skip
      refine g_if_ne C 24 47 dX7_number_24 (by decide) ?_ ?_
      · skip
        exact g_sub _ [0, 1] rfl (hJ47 u1)
      · skip
        refine g_aload_n C 27 0 dX7_number_27 rfl ?_
        refine gfM_X7_value C 28 iX7 (List.mem_cons_of_mem _ (List.mem_append_right _ wgL_16_0.1)) dX7_number_28 ?_
        refine g_i2l C 31 dX7_number_31 ?_
        refine g_iload_n C 32 1 dX7_number_32 rfl ?_
        refine g_i2l C 33 dX7_number_33 ?_
        refine g_iload_n C 34 2 dX7_number_34 rfl ?_
        refine g_i2l C 35 dX7_number_35 ?_
        refine g_callSi (st := []) (As := [.long (Int32.toInt64 (u1.1 14)), .long (Int32.toInt64 p1), .long (Int32.toInt64 p2)]) C E0_ok E0_vm 36 3 (tX7_in F (Int32.toInt64 (u1.1 14)) (Int32.toInt64 p1) (Int32.toInt64 p2) u1) rfl gX7_number_X7_in rfl rfl rfl (by decide +kernel) ⟨Nat.le_of_ble_eq_true rfl, Nat.le_of_ble_eq_true rfl⟩ rfl (Nat.le_of_ble_eq_true rfl) dX7_number_36 (fun r7 u6 => ?_)
        refine g_if_ne C 39 47 dX7_number_39 (by decide) ?_ ?_
        · skip
          exact g_sub _ [0, 1] rfl (hJ47 u6)
        · skip
          refine g_aload_n C 42 0 dX7_number_42 rfl ?_
          refine g_iconst C 43 3 dX7_number_43 rfl ?_
          refine g_callVv (st := []) (As := [.int 3]) C E0_ok E0_vm 44 0 1 (tX7_fails F 3 u6) rfl gX7_number_X7_fails rfl rfl rfl (by decide +kernel) ⟨Nat.le_of_ble_eq_true rfl, Nat.le_of_ble_eq_true rfl⟩ rfl rfl rfl (Nat.le_of_ble_eq_true rfl) dX7_number_44 (fun u8 => ?_)
          exact g_sub _ [0, 1] rfl (hJ47 u8)
  · skip
    refine g_if_ne C 4 20 dX7_number_4 (by decide) ?_ ?_
    · skip
      exact g_sub _ [0, 1, 2] rfl (hJ20 u)
    · skip
      refine g_aload_n C 7 0 dX7_number_7 rfl ?_
      refine gfM_X7_token C 8 iX7 (List.mem_cons_of_mem _ (List.mem_append_right _ wgL_15_13.1)) dX7_number_8 ?_
      refine g_iconst C 11 2 dX7_number_11 rfl ?_
      refine g_icmp_eq C 12 20 dX7_number_12 (by decide) ?_ ?_
      · skip
        exact g_sub _ [0, 1, 2] rfl (hJ20 u)
      · skip
        refine g_aload_n C 15 0 dX7_number_15 rfl ?_
        refine g_iconst C 16 2 dX7_number_16 rfl ?_
        refine g_callVv (st := []) (As := [.int 2]) C E0_ok E0_vm 17 0 1 (tX7_fails F 2 u) rfl gX7_number_X7_fails rfl rfl rfl (by decide +kernel) ⟨Nat.le_of_ble_eq_true rfl, Nat.le_of_ble_eq_true rfl⟩ rfl rfl rfl (Nat.le_of_ble_eq_true rfl) dX7_number_17 (fun u9 => ?_)
        exact g_sub _ [0, 1, 2] rfl (hJ20 u9)
def pX7_readFlame (F : Nat) (p1 : Int32) (u : St) : Option (Unit × St) :=
  jn (fun (a1 : Int32) (u2 : St) => bd (pX7_in F (Int32.toInt64 a1) 0 3 u2) (fun (r4 : Int32) (u3 : St) => if r4 = 0 then bd (pX7_fails F 2 u3) (fun (_ : Unit) (u13 : St) => some ((), u13)) else gd (inb p1 68) (vl (sta u3 2 p1 a1) (fun (u5 : St) => bd (pX7_step F u5) (fun (_ : Unit) (u6 : St) => bd (pX7_number F 0 99 u6) (fun (r8 : Int32) (u7 : St) => gd (inb (8 + p1) 68) (vl (sta u7 2 (8 + p1) r8) (fun (u9 : St) => if (u9.1 9) = 0 then if (u9.1 13) = 2 then bd (pX7_number F 0 9 u9) (fun (r11 : Int32) (u10 : St) => gd (inb (16 + p1) 68) (vl (sta u10 2 (16 + p1) r11) (fun (u12 : St) => some ((), u12)))) else some ((), u9) else some ((), u9))))))))) (fun (J16 : Int32 → St → Option (Unit × St)) => if (u.1 9) ≤ 0 then bd (pX7_nameHere F u) (fun (r15 : Int32) (u14 : St) => (J16 r15 u14)) else (J16 (-4) u))
set_option maxRecDepth 100000 in
set_option maxHeartbeats 4000000 in
theorem tX7_readFlame {l : Launch} {D : va_G} {cI cZ : ClassId} {ad : Nat → Nat} (F : Nat) (p1 : Int32) (u : St) : CtV l D [(cI, .int), (cZ, .boolean)] (wM ad cI cZ) E0 yX7_readFlame wsX7_readFlame ({ frames := 3, cells := 0, slots := 0, locals := 69 } : Room) [.ref (ad 0), .int p1] u (pX7_readFlame F p1 u) := by
  refine ctV_of (own := RX7) (cc := cX7_readFlame) (n := 3) (ret := none) (by decide) rfl rfl (Nat.le_of_ble_eq_true rfl) (lv := [(0, .ref (ad 0)), (1, .int p1)]) rfl (fun C => ?_)
  have iX7 : ∀ w ∈ wsX70, w ∈ wsX7_readFlame := fun w h => List.mem_cons_of_mem _ (List.mem_append_right _ (inlX7 w h))
  rw [pX7_readFlame]
  refine g_aload_n C 0 0 dX7_readFlame_0 rfl ?_
  refine gfM_X7_broken C 1 iX7 (List.mem_cons_of_mem _ (List.mem_append_right _ wgL_15_6.1)) dX7_readFlame_1 ?_
  refine g_jn1 16 (fun (a1 : Int32) => [(0, .ref (ad 0)), (1, .int p1)]) (fun (a1 : Int32) => [.int a1]) (fun a1 u2 => ?_) (fun J16 hJ16 => ?_)
  · skip
    refine g_istore_n C 16 [(2, .int a1), (0, .ref (ad 0)), (1, .int p1)] dX7_readFlame_16 (by decide) rfl ?_
    refine g_iload_n C 17 0 dX7_readFlame_17 rfl ?_
    refine g_i2l C 18 dX7_readFlame_18 ?_
    refine g_lconst C 19 0 dX7_readFlame_19 rfl ?_
    refine g_ldc2 C 20 3 (by decide +kernel) dX7_readFlame_20 ?_
    refine g_callSi (st := []) (As := [.long (Int32.toInt64 a1), .long 0, .long 3]) C E0_ok E0_vm 23 3 (tX7_in F (Int32.toInt64 a1) 0 3 u2) rfl gX7_readFlame_X7_in rfl rfl rfl (by decide +kernel) ⟨Nat.le_of_ble_eq_true rfl, Nat.le_of_ble_eq_true rfl⟩ rfl (Nat.le_of_ble_eq_true rfl) dX7_readFlame_23 (fun r4 u3 => ?_)
    refine g_if_ne C 26 35 dX7_readFlame_26 (by decide) ?_ ?_
    · skip
      refine g_aload_n C 35 1 dX7_readFlame_35 rfl ?_
      refine gfM_X7_readPage C 36 iX7 (List.mem_cons_of_mem _ (List.mem_append_right _ wgL_5_16.1)) dX7_readFlame_36 ?_
      refine g_iload_n C 39 2 dX7_readFlame_39 rfl ?_
      refine g_iload_n C 40 0 dX7_readFlame_40 rfl ?_
      refine g_iast C 41 (1 + 2) 0 2 (wM_arr 2 (by decide)) (wM_aset 2 (by decide)) rfl dX7_readFlame_41 (fun u5 => ?_)
      refine g_aload_n C 42 1 dX7_readFlame_42 rfl ?_
      refine g_callVv (st := []) (As := []) C E0_ok E0_vm 43 0 0 (tX7_step F u5) rfl gX7_readFlame_X7_step rfl rfl rfl (by decide +kernel) ⟨Nat.le_of_ble_eq_true rfl, Nat.le_of_ble_eq_true rfl⟩ rfl rfl rfl (Nat.le_of_ble_eq_true rfl) dX7_readFlame_43 (fun u6 => ?_)
      refine g_aload_n C 46 1 dX7_readFlame_46 rfl ?_
      refine gfM_X7_readPage C 47 iX7 (List.mem_cons_of_mem _ (List.mem_append_right _ wgL_5_16.1)) dX7_readFlame_47 ?_
      refine g_bipush C 50 8 dX7_readFlame_50 rfl ?_
      refine g_iload_n C 52 2 dX7_readFlame_52 rfl ?_
      refine g_iadd C 53 dX7_readFlame_53 ?_
      refine g_aload_n C 54 1 dX7_readFlame_54 rfl ?_
      refine g_iconst C 55 0 dX7_readFlame_55 rfl ?_
      refine g_bipush C 56 99 dX7_readFlame_56 rfl ?_
      refine g_callVi (st := [.int (8 + p1), .ref (ad (1 + 2))]) (As := [.int 0, .int 99]) C E0_ok E0_vm 58 0 2 (tX7_number F 0 99 u6) rfl gX7_readFlame_X7_number rfl rfl rfl (by decide +kernel) ⟨Nat.le_of_ble_eq_true rfl, Nat.le_of_ble_eq_true rfl⟩ rfl rfl rfl (Nat.le_of_ble_eq_true rfl) dX7_readFlame_58 (fun r8 u7 => ?_)
      refine g_iast C 61 (1 + 2) 0 2 (wM_arr 2 (by decide)) (wM_aset 2 (by decide)) rfl dX7_readFlame_61 (fun u9 => ?_)
      refine g_aload_n C 62 1 dX7_readFlame_62 rfl ?_
      refine gfM_X7_broken C 63 iX7 (List.mem_cons_of_mem _ (List.mem_append_right _ wgL_15_6.1)) dX7_readFlame_63 ?_
      refine g_if_ne C 66 93 dX7_readFlame_66 (by decide) ?_ ?_
      · skip
        exact g_vret C 93 dX7_readFlame_93
      · skip
        refine g_aload_n C 69 1 dX7_readFlame_69 rfl ?_
        refine gfM_X7_token C 70 iX7 (List.mem_cons_of_mem _ (List.mem_append_right _ wgL_15_13.1)) dX7_readFlame_70 ?_
        refine g_iconst C 73 2 dX7_readFlame_73 rfl ?_
        refine g_icmp_ne C 74 93 dX7_readFlame_74 (by decide) ?_ ?_
        · skip
          exact g_vret C 93 dX7_readFlame_93
        · skip
          refine g_aload_n C 77 1 dX7_readFlame_77 rfl ?_
          refine gfM_X7_readPage C 78 iX7 (List.mem_cons_of_mem _ (List.mem_append_right _ wgL_5_16.1)) dX7_readFlame_78 ?_
          refine g_bipush C 81 16 dX7_readFlame_81 rfl ?_
          refine g_iload_n C 83 2 dX7_readFlame_83 rfl ?_
          refine g_iadd C 84 dX7_readFlame_84 ?_
          refine g_aload_n C 85 1 dX7_readFlame_85 rfl ?_
          refine g_iconst C 86 0 dX7_readFlame_86 rfl ?_
          refine g_bipush C 87 9 dX7_readFlame_87 rfl ?_
          refine g_callVi (st := [.int (16 + p1), .ref (ad (1 + 2))]) (As := [.int 0, .int 9]) C E0_ok E0_vm 89 0 2 (tX7_number F 0 9 u9) rfl gX7_readFlame_X7_number rfl rfl rfl (by decide +kernel) ⟨Nat.le_of_ble_eq_true rfl, Nat.le_of_ble_eq_true rfl⟩ rfl rfl rfl (Nat.le_of_ble_eq_true rfl) dX7_readFlame_89 (fun r11 u10 => ?_)
          refine g_iast C 92 (1 + 2) 0 2 (wM_arr 2 (by decide)) (wM_aset 2 (by decide)) rfl dX7_readFlame_92 (fun u12 => ?_)
          exact g_vret C 93 dX7_readFlame_93
    · skip
      refine g_aload_n C 29 1 dX7_readFlame_29 rfl ?_
      refine g_iconst C 30 2 dX7_readFlame_30 rfl ?_
      refine g_callVv (st := []) (As := [.int 2]) C E0_ok E0_vm 31 0 1 (tX7_fails F 2 u3) rfl gX7_readFlame_X7_fails rfl rfl rfl (by decide +kernel) ⟨Nat.le_of_ble_eq_true rfl, Nat.le_of_ble_eq_true rfl⟩ rfl rfl rfl (Nat.le_of_ble_eq_true rfl) dX7_readFlame_31 (fun u13 => ?_)
      exact g_vret C 34 dX7_readFlame_34
  · skip
    refine g_if_le C 4 12 dX7_readFlame_4 (by decide) ?_ ?_
    · skip
      refine g_aload_n C 12 0 dX7_readFlame_12 rfl ?_
      refine g_callVi (st := []) (As := []) C E0_ok E0_vm 13 0 0 (tX7_nameHere F u) rfl gX7_readFlame_X7_nameHere rfl rfl rfl (by decide +kernel) ⟨Nat.le_of_ble_eq_true rfl, Nat.le_of_ble_eq_true rfl⟩ rfl rfl rfl (Nat.le_of_ble_eq_true rfl) dX7_readFlame_13 (fun r15 u14 => ?_)
      exact g_sub _ [0, 1] rfl (hJ16 r15 u14)
    · skip
      refine g_bipush C 7 (-4) dX7_readFlame_7 rfl ?_
      refine g_goto C 9 16 dX7_readFlame_9 (by decide) ?_
      exact g_sub _ [0, 1] rfl (hJ16 (-4) u)
def bX7_readDocket_0 (F : Nat)  (self2 : St → Option (Unit × St))  (u1 : St) : Option (Unit × St) :=
  if (u1.1 9) = 0 then if (u1.1 13) = 2 then gd (inb 55 68) (if (u1.2 2 (Int32.toNatClampNeg 55)) = 6 then bd (pX7_fails F 5 u1) (fun (_ : Unit) (u16 : St) => (self2 u16)) else bd (pX7_number F 0 3 u1) (fun (r4 : Int32) (u3 : St) => bd (pX7_number F 0 2 u3) (fun (r6 : Int32) (u5 : St) => jn (fun (a7 : Int32) (u8 : St) => vl (stf u8 5 a7) (fun (u9 : St) => jn (fun (a10 : Int32) (u11 : St) => vl (stf u11 6 a10) (fun (u12 : St) => gd (inb 55 68) (gd (inb (56 + (u12.2 2 (Int32.toNatClampNeg 55))) 68) (vl (sta u12 2 (56 + (u12.2 2 (Int32.toNatClampNeg 55))) r4) (fun (u13 : St) => gd (inb 55 68) (gd (inb (62 + (u13.2 2 (Int32.toNatClampNeg 55))) 68) (vl (sta u13 2 (62 + (u13.2 2 (Int32.toNatClampNeg 55))) r6) (fun (u14 : St) => gd (inb 55 68) (gd (inb 55 68) (vl (sta u14 2 55 ((u14.2 2 (Int32.toNatClampNeg 55)) + 1)) (fun (u15 : St) => (self2 u15)))))))))))) (fun (J86 : Int32 → St → Option (Unit × St)) => if r6 ≤ (u9.1 6) then (J86 (u9.1 6) u9) else (J86 r6 u9)))) (fun (J66 : Int32 → St → Option (Unit × St)) => if r4 ≤ (u5.1 5) then (J66 (u5.1 5) u5) else (J66 r4 u5))))) else some ((), u1) else some ((), u1)
def pX7_readDocket (F : Nat)  (u : St) : Option (Unit × St) :=
  (lp0 (bX7_readDocket_0 F) F u)
set_option maxRecDepth 100000 in
set_option maxHeartbeats 4000000 in
theorem tX7_readDocket {l : Launch} {D : va_G} {cI cZ : ClassId} {ad : Nat → Nat} (F : Nat)  (u : St) : CtV l D [(cI, .int), (cZ, .boolean)] (wM ad cI cZ) E0 yX7_readDocket wsX7_readDocket ({ frames := 3, cells := 0, slots := 0, locals := 69 } : Room) [.ref (ad 0)] u (pX7_readDocket F u) := by
  refine ctV_of (own := RX7) (cc := cX7_readDocket) (n := 3) (ret := none) (by decide) rfl rfl (Nat.le_of_ble_eq_true rfl) (lv := [(0, .ref (ad 0))]) rfl (fun C => ?_)
  have iX7 : ∀ w ∈ wsX70, w ∈ wsX7_readDocket := fun w h => List.mem_cons_of_mem _ (List.mem_append_right _ (inlX7 w h))
  rw [pX7_readDocket]
  refine g_sub _ [0] rfl ?_
  refine g_lp0 (fun self2 hself2 u1 => ?_) F u
  rw [bX7_readDocket_0]
  refine g_aload_n C 0 0 dX7_readDocket_0 rfl ?_
  refine gfM_X7_broken C 1 iX7 (List.mem_cons_of_mem _ (List.mem_append_right _ wgL_15_6.1)) dX7_readDocket_1 ?_
  refine g_if_ne C 4 135 dX7_readDocket_4 (by decide) ?_ ?_
  · skip
    exact g_vret C 135 dX7_readDocket_135
  · skip
    refine g_aload_n C 7 0 dX7_readDocket_7 rfl ?_
    refine gfM_X7_token C 8 iX7 (List.mem_cons_of_mem _ (List.mem_append_right _ wgL_15_13.1)) dX7_readDocket_8 ?_
    refine g_iconst C 11 2 dX7_readDocket_11 rfl ?_
    refine g_icmp_ne C 12 135 dX7_readDocket_12 (by decide) ?_ ?_
    · skip
      exact g_vret C 135 dX7_readDocket_135
    · skip
      refine g_aload_n C 15 0 dX7_readDocket_15 rfl ?_
      refine gfM_X7_readPage C 16 iX7 (List.mem_cons_of_mem _ (List.mem_append_right _ wgL_5_16.1)) dX7_readDocket_16 ?_
      refine g_bipush C 19 55 dX7_readDocket_19 rfl ?_
      refine g_iald C 21 (1 + 2) 0 (wM_arr 2 (by decide)) rfl dX7_readDocket_21 ?_
      refine g_bipush C 22 6 dX7_readDocket_22 rfl ?_
      refine g_icmp_ne C 24 35 dX7_readDocket_24 (by decide) ?_ ?_
      · skip
        refine g_aload_n C 35 0 dX7_readDocket_35 rfl ?_
        refine g_iconst C 36 0 dX7_readDocket_36 rfl ?_
        refine g_iconst C 37 3 dX7_readDocket_37 rfl ?_
        refine g_callVi (st := []) (As := [.int 0, .int 3]) C E0_ok E0_vm 38 0 2 (tX7_number F 0 3 u1) rfl gX7_readDocket_X7_number rfl rfl rfl (by decide +kernel) ⟨Nat.le_of_ble_eq_true rfl, Nat.le_of_ble_eq_true rfl⟩ rfl rfl rfl (Nat.le_of_ble_eq_true rfl) dX7_readDocket_38 (fun r4 u3 => ?_)
        refine g_istore_n C 41 [(1, .int r4), (0, .ref (ad 0))] dX7_readDocket_41 (by decide) rfl ?_
        refine g_aload_n C 42 1 dX7_readDocket_42 rfl ?_
        refine g_iconst C 43 0 dX7_readDocket_43 rfl ?_
        refine g_iconst C 44 2 dX7_readDocket_44 rfl ?_
        refine g_callVi (st := []) (As := [.int 0, .int 2]) C E0_ok E0_vm 45 0 2 (tX7_number F 0 2 u3) rfl gX7_readDocket_X7_number rfl rfl rfl (by decide +kernel) ⟨Nat.le_of_ble_eq_true rfl, Nat.le_of_ble_eq_true rfl⟩ rfl rfl rfl (Nat.le_of_ble_eq_true rfl) dX7_readDocket_45 (fun r6 u5 => ?_)
        refine g_istore_n C 48 [(2, .int r6), (1, .int r4), (0, .ref (ad 0))] dX7_readDocket_48 (by decide) rfl ?_
        refine g_aload_n C 49 2 dX7_readDocket_49 rfl ?_
        refine g_iload_n C 50 1 dX7_readDocket_50 rfl ?_
        refine g_aload_n C 51 2 dX7_readDocket_51 rfl ?_
        refine gfM_X7_highCase C 52 iX7 (List.mem_cons_of_mem _ (List.mem_append_right _ wgL_15_11.1)) dX7_readDocket_52 ?_
        refine g_jn1 66 (fun (a7 : Int32) => [(0, .ref (ad 0)), (1, .int r4), (2, .int r6)]) (fun (a7 : Int32) => [.int a7, .ref (ad 0)]) (fun a7 u8 => ?_) (fun J66 hJ66 => ?_)
        · skip
          refine pfM_X7_highCase C 66 iX7 (List.mem_cons_of_mem _ (List.mem_append_right _ wgL_15_11.1)) dX7_readDocket_66 (fun u9 => ?_)
          refine g_aload_n C 69 0 dX7_readDocket_69 rfl ?_
          refine g_iload_n C 70 2 dX7_readDocket_70 rfl ?_
          refine g_aload_n C 71 0 dX7_readDocket_71 rfl ?_
          refine gfM_X7_highJudge C 72 iX7 (List.mem_cons_of_mem _ (List.mem_append_right _ wgL_15_12.1)) dX7_readDocket_72 ?_
          refine g_jn1 86 (fun (a10 : Int32) => [(0, .ref (ad 0)), (1, .int r4), (2, .int r6)]) (fun (a10 : Int32) => [.int a10, .ref (ad 0)]) (fun a10 u11 => ?_) (fun J86 hJ86 => ?_)
          · skip
            refine pfM_X7_highJudge C 86 iX7 (List.mem_cons_of_mem _ (List.mem_append_right _ wgL_15_12.1)) dX7_readDocket_86 (fun u12 => ?_)
            refine g_aload_n C 89 0 dX7_readDocket_89 rfl ?_
            refine gfM_X7_readPage C 90 iX7 (List.mem_cons_of_mem _ (List.mem_append_right _ wgL_5_16.1)) dX7_readDocket_90 ?_
            refine g_bipush C 93 56 dX7_readDocket_93 rfl ?_
            refine g_aload_n C 95 0 dX7_readDocket_95 rfl ?_
            refine gfM_X7_readPage C 96 iX7 (List.mem_cons_of_mem _ (List.mem_append_right _ wgL_5_16.1)) dX7_readDocket_96 ?_
            refine g_bipush C 99 55 dX7_readDocket_99 rfl ?_
            refine g_iald C 101 (1 + 2) 0 (wM_arr 2 (by decide)) rfl dX7_readDocket_101 ?_
            refine g_iadd C 102 dX7_readDocket_102 ?_
            refine g_iload_n C 103 1 dX7_readDocket_103 rfl ?_
            refine g_iast C 104 (1 + 2) 0 2 (wM_arr 2 (by decide)) (wM_aset 2 (by decide)) rfl dX7_readDocket_104 (fun u13 => ?_)
            refine g_aload_n C 105 0 dX7_readDocket_105 rfl ?_
            refine gfM_X7_readPage C 106 iX7 (List.mem_cons_of_mem _ (List.mem_append_right _ wgL_5_16.1)) dX7_readDocket_106 ?_
            refine g_bipush C 109 62 dX7_readDocket_109 rfl ?_
            refine g_aload_n C 111 0 dX7_readDocket_111 rfl ?_
            refine gfM_X7_readPage C 112 iX7 (List.mem_cons_of_mem _ (List.mem_append_right _ wgL_5_16.1)) dX7_readDocket_112 ?_
            refine g_bipush C 115 55 dX7_readDocket_115 rfl ?_
            refine g_iald C 117 (1 + 2) 0 (wM_arr 2 (by decide)) rfl dX7_readDocket_117 ?_
            refine g_iadd C 118 dX7_readDocket_118 ?_
            refine g_iload_n C 119 2 dX7_readDocket_119 rfl ?_
            refine g_iast C 120 (1 + 2) 0 2 (wM_arr 2 (by decide)) (wM_aset 2 (by decide)) rfl dX7_readDocket_120 (fun u14 => ?_)
            refine g_aload_n C 121 0 dX7_readDocket_121 rfl ?_
            refine gfM_X7_readPage C 122 iX7 (List.mem_cons_of_mem _ (List.mem_append_right _ wgL_5_16.1)) dX7_readDocket_122 ?_
            refine g_bipush C 125 55 dX7_readDocket_125 rfl ?_
            refine g_dup2 C 127 dX7_readDocket_127 rfl rfl ?_
            refine g_iald C 128 (1 + 2) 0 (wM_arr 2 (by decide)) rfl dX7_readDocket_128 ?_
            refine g_iconst C 129 1 dX7_readDocket_129 rfl ?_
            refine g_iadd C 130 dX7_readDocket_130 ?_
            refine g_iast C 131 (1 + 2) 0 2 (wM_arr 2 (by decide)) (wM_aset 2 (by decide)) rfl dX7_readDocket_131 (fun u15 => ?_)
            refine g_goto C 132 0 dX7_readDocket_132 (by decide) ?_
            exact g_sub _ [0] rfl (hself2 u15)
          · skip
            refine g_icmp_le C 75 82 dX7_readDocket_75 (by decide) ?_ ?_
            · skip
              refine g_aload_n C 82 0 dX7_readDocket_82 rfl ?_
              refine gfM_X7_highJudge C 83 iX7 (List.mem_cons_of_mem _ (List.mem_append_right _ wgL_15_12.1)) dX7_readDocket_83 ?_
              exact g_sub _ [0, 1, 2] rfl (hJ86 (u9.1 6) u9)
            · skip
              refine g_iload_n C 78 2 dX7_readDocket_78 rfl ?_
              refine g_goto C 79 86 dX7_readDocket_79 (by decide) ?_
              exact g_sub _ [0, 1, 2] rfl (hJ86 r6 u9)
        · skip
          refine g_icmp_le C 55 62 dX7_readDocket_55 (by decide) ?_ ?_
          · skip
            refine g_aload_n C 62 2 dX7_readDocket_62 rfl ?_
            refine gfM_X7_highCase C 63 iX7 (List.mem_cons_of_mem _ (List.mem_append_right _ wgL_15_11.1)) dX7_readDocket_63 ?_
            exact g_sub _ [2, 1, 0] rfl (hJ66 (u5.1 5) u5)
          · skip
            refine g_iload_n C 58 1 dX7_readDocket_58 rfl ?_
            refine g_goto C 59 66 dX7_readDocket_59 (by decide) ?_
            exact g_sub _ [2, 1, 0] rfl (hJ66 r4 u5)
      · skip
        refine g_aload_n C 27 0 dX7_readDocket_27 rfl ?_
        refine g_iconst C 28 5 dX7_readDocket_28 rfl ?_
        refine g_callVv (st := []) (As := [.int 5]) C E0_ok E0_vm 29 0 1 (tX7_fails F 5 u1) rfl gX7_readDocket_X7_fails rfl rfl rfl (by decide +kernel) ⟨Nat.le_of_ble_eq_true rfl, Nat.le_of_ble_eq_true rfl⟩ rfl rfl rfl (Nat.le_of_ble_eq_true rfl) dX7_readDocket_29 (fun u16 => ?_)
        refine g_goto C 32 0 dX7_readDocket_32 (by decide) ?_
        exact g_sub _ [0] rfl (hself2 u16)
def pX7_readMore (F : Nat) (p1 : Int32) (u : St) : Option (Unit × St) :=
  if p1 = 8 then bd (pX7_readFlame F (2 * (u.1 2)) u) (fun (_ : Unit) (u14 : St) => bd (pX7_readFlame F ((2 * (u14.1 2)) + 1) u14) (fun (_ : Unit) (u15 : St) => vl (stf u15 2 ((u15.1 2) + 1)) (fun (u16 : St) => some ((), u16)))) else if p1 = 9 then gd (inb 46 68) (bd (pX7_number F 0 20 u) (fun (r8 : Int32) (u7 : St) => gd (inb (47 + (u.2 2 (Int32.toNatClampNeg 46))) 68) (vl (sta u7 2 (47 + (u.2 2 (Int32.toNatClampNeg 46))) r8) (fun (u9 : St) => gd (inb 46 68) (bd (pX7_number F 1 9 u9) (fun (r11 : Int32) (u10 : St) => gd (inb (51 + (u9.2 2 (Int32.toNatClampNeg 46))) 68) (vl (sta u10 2 (51 + (u9.2 2 (Int32.toNatClampNeg 46))) r11) (fun (u12 : St) => gd (inb 46 68) (gd (inb 46 68) (vl (sta u12 2 46 ((u12.2 2 (Int32.toNatClampNeg 46)) + 1)) (fun (u13 : St) => some ((), u13)))))))))))) else if p1 = 10 then bd (pX7_readDocket F u) (fun (_ : Unit) (u6 : St) => some ((), u6)) else gd (inb (40 + (u.1 3)) 68) (vl (sta u 2 (40 + (u.1 3)) (p1 - 4)) (fun (u1 : St) => bd (pX7_number F 1 9 u1) (fun (r3 : Int32) (u2 : St) => gd (inb (43 + (u1.1 3)) 68) (vl (sta u2 2 (43 + (u1.1 3)) r3) (fun (u4 : St) => vl (stf u4 3 ((u4.1 3) + 1)) (fun (u5 : St) => some ((), u5)))))))
set_option maxRecDepth 100000 in
set_option maxHeartbeats 4000000 in
theorem tX7_readMore {l : Launch} {D : va_G} {cI cZ : ClassId} {ad : Nat → Nat} (F : Nat) (p1 : Int32) (u : St) : CtV l D [(cI, .int), (cZ, .boolean)] (wM ad cI cZ) E0 yX7_readMore wsX7_readMore ({ frames := 4, cells := 0, slots := 0, locals := 91 } : Room) [.ref (ad 0), .int p1] u (pX7_readMore F p1 u) := by
  refine ctV_of (own := RX7) (cc := cX7_readMore) (n := 2) (ret := none) (by decide) rfl rfl (Nat.le_of_ble_eq_true rfl) (lv := [(0, .ref (ad 0)), (1, .int p1)]) rfl (fun C => ?_)
  have iX7 : ∀ w ∈ wsX70, w ∈ wsX7_readMore := fun w h => List.mem_cons_of_mem _ (List.mem_append_right _ (inlX7 w h))
  rw [pX7_readMore]
  refine g_iload_n C 0 1 dX7_readMore_0 rfl ?_
  refine g_bipush C 1 8 dX7_readMore_1 rfl ?_
  refine g_icmp_ne C 3 41 dX7_readMore_3 (by decide) ?_ ?_
  · skip
    refine g_iload_n C 41 1 dX7_readMore_41 rfl ?_
    refine g_bipush C 42 9 dX7_readMore_42 rfl ?_
    refine g_icmp_ne C 44 105 dX7_readMore_44 (by decide) ?_ ?_
    · skip
      refine g_iload_n C 105 1 dX7_readMore_105 rfl ?_
      refine g_bipush C 106 10 dX7_readMore_106 rfl ?_
      refine g_icmp_ne C 108 118 dX7_readMore_108 (by decide) ?_ ?_
      · skip
        refine g_aload_n C 118 0 dX7_readMore_118 rfl ?_
        refine gfM_X7_readPage C 119 iX7 (List.mem_cons_of_mem _ (List.mem_append_right _ wgL_5_16.1)) dX7_readMore_119 ?_
        refine g_bipush C 122 40 dX7_readMore_122 rfl ?_
        refine g_aload_n C 124 0 dX7_readMore_124 rfl ?_
        refine gfM_X7_readJudges C 125 iX7 (List.mem_cons_of_mem _ (List.mem_append_right _ wgL_15_9.1)) dX7_readMore_125 ?_
        refine g_iadd C 128 dX7_readMore_128 ?_
        refine g_iload_n C 129 1 dX7_readMore_129 rfl ?_
        refine g_iconst C 130 4 dX7_readMore_130 rfl ?_
        refine g_isub C 131 dX7_readMore_131 ?_
        refine g_iast C 132 (1 + 2) 0 2 (wM_arr 2 (by decide)) (wM_aset 2 (by decide)) rfl dX7_readMore_132 (fun u1 => ?_)
        refine g_aload_n C 133 0 dX7_readMore_133 rfl ?_
        refine gfM_X7_readPage C 134 iX7 (List.mem_cons_of_mem _ (List.mem_append_right _ wgL_5_16.1)) dX7_readMore_134 ?_
        refine g_bipush C 137 43 dX7_readMore_137 rfl ?_
        refine g_aload_n C 139 0 dX7_readMore_139 rfl ?_
        refine gfM_X7_readJudges C 140 iX7 (List.mem_cons_of_mem _ (List.mem_append_right _ wgL_15_9.1)) dX7_readMore_140 ?_
        refine g_iadd C 143 dX7_readMore_143 ?_
        refine g_aload_n C 144 0 dX7_readMore_144 rfl ?_
        refine g_iconst C 145 1 dX7_readMore_145 rfl ?_
        refine g_bipush C 146 9 dX7_readMore_146 rfl ?_
        refine g_callVi (st := [.int (43 + (u1.1 3)), .ref (ad (1 + 2))]) (As := [.int 1, .int 9]) C E0_ok E0_vm 148 0 2 (tX7_number F 1 9 u1) rfl gX7_readMore_X7_number rfl rfl rfl (by decide +kernel) ⟨Nat.le_of_ble_eq_true rfl, Nat.le_of_ble_eq_true rfl⟩ rfl rfl rfl (Nat.le_of_ble_eq_true rfl) dX7_readMore_148 (fun r3 u2 => ?_)
        refine g_iast C 151 (1 + 2) 0 2 (wM_arr 2 (by decide)) (wM_aset 2 (by decide)) rfl dX7_readMore_151 (fun u4 => ?_)
        refine g_aload_n C 152 0 dX7_readMore_152 rfl ?_
        refine g_dup C 153 dX7_readMore_153 rfl ?_
        refine gfM_X7_readJudges C 154 iX7 (List.mem_cons_of_mem _ (List.mem_append_right _ wgL_15_9.1)) dX7_readMore_154 ?_
        refine g_iconst C 157 1 dX7_readMore_157 rfl ?_
        refine g_iadd C 158 dX7_readMore_158 ?_
        refine pfM_X7_readJudges C 159 iX7 (List.mem_cons_of_mem _ (List.mem_append_right _ wgL_15_9.1)) dX7_readMore_159 (fun u5 => ?_)
        exact g_vret C 162 dX7_readMore_162
      · skip
        refine g_aload_n C 111 0 dX7_readMore_111 rfl ?_
        refine g_callVv (st := []) (As := []) C E0_ok E0_vm 112 0 0 (tX7_readDocket F u) rfl gX7_readMore_X7_readDocket rfl rfl rfl (by decide +kernel) ⟨Nat.le_of_ble_eq_true rfl, Nat.le_of_ble_eq_true rfl⟩ rfl rfl rfl (Nat.le_of_ble_eq_true rfl) dX7_readMore_112 (fun u6 => ?_)
        refine g_goto C 115 162 dX7_readMore_115 (by decide) ?_
        exact g_vret C 162 dX7_readMore_162
    · skip
      refine g_aload_n C 47 0 dX7_readMore_47 rfl ?_
      refine gfM_X7_readPage C 48 iX7 (List.mem_cons_of_mem _ (List.mem_append_right _ wgL_5_16.1)) dX7_readMore_48 ?_
      refine g_bipush C 51 47 dX7_readMore_51 rfl ?_
      refine g_aload_n C 53 0 dX7_readMore_53 rfl ?_
      refine gfM_X7_readPage C 54 iX7 (List.mem_cons_of_mem _ (List.mem_append_right _ wgL_5_16.1)) dX7_readMore_54 ?_
      refine g_bipush C 57 46 dX7_readMore_57 rfl ?_
      refine g_iald C 59 (1 + 2) 0 (wM_arr 2 (by decide)) rfl dX7_readMore_59 ?_
      refine g_iadd C 60 dX7_readMore_60 ?_
      refine g_aload_n C 61 0 dX7_readMore_61 rfl ?_
      refine g_iconst C 62 0 dX7_readMore_62 rfl ?_
      refine g_bipush C 63 20 dX7_readMore_63 rfl ?_
      refine g_callVi (st := [.int (47 + (u.2 2 (Int32.toNatClampNeg 46))), .ref (ad (1 + 2))]) (As := [.int 0, .int 20]) C E0_ok E0_vm 65 0 2 (tX7_number F 0 20 u) rfl gX7_readMore_X7_number rfl rfl rfl (by decide +kernel) ⟨Nat.le_of_ble_eq_true rfl, Nat.le_of_ble_eq_true rfl⟩ rfl rfl rfl (Nat.le_of_ble_eq_true rfl) dX7_readMore_65 (fun r8 u7 => ?_)
      refine g_iast C 68 (1 + 2) 0 2 (wM_arr 2 (by decide)) (wM_aset 2 (by decide)) rfl dX7_readMore_68 (fun u9 => ?_)
      refine g_aload_n C 69 0 dX7_readMore_69 rfl ?_
      refine gfM_X7_readPage C 70 iX7 (List.mem_cons_of_mem _ (List.mem_append_right _ wgL_5_16.1)) dX7_readMore_70 ?_
      refine g_bipush C 73 51 dX7_readMore_73 rfl ?_
      refine g_aload_n C 75 0 dX7_readMore_75 rfl ?_
      refine gfM_X7_readPage C 76 iX7 (List.mem_cons_of_mem _ (List.mem_append_right _ wgL_5_16.1)) dX7_readMore_76 ?_
      refine g_bipush C 79 46 dX7_readMore_79 rfl ?_
      refine g_iald C 81 (1 + 2) 0 (wM_arr 2 (by decide)) rfl dX7_readMore_81 ?_
      refine g_iadd C 82 dX7_readMore_82 ?_
      refine g_aload_n C 83 0 dX7_readMore_83 rfl ?_
      refine g_iconst C 84 1 dX7_readMore_84 rfl ?_
      refine g_bipush C 85 9 dX7_readMore_85 rfl ?_
      refine g_callVi (st := [.int (51 + (u9.2 2 (Int32.toNatClampNeg 46))), .ref (ad (1 + 2))]) (As := [.int 1, .int 9]) C E0_ok E0_vm 87 0 2 (tX7_number F 1 9 u9) rfl gX7_readMore_X7_number rfl rfl rfl (by decide +kernel) ⟨Nat.le_of_ble_eq_true rfl, Nat.le_of_ble_eq_true rfl⟩ rfl rfl rfl (Nat.le_of_ble_eq_true rfl) dX7_readMore_87 (fun r11 u10 => ?_)
      refine g_iast C 90 (1 + 2) 0 2 (wM_arr 2 (by decide)) (wM_aset 2 (by decide)) rfl dX7_readMore_90 (fun u12 => ?_)
      refine g_aload_n C 91 0 dX7_readMore_91 rfl ?_
      refine gfM_X7_readPage C 92 iX7 (List.mem_cons_of_mem _ (List.mem_append_right _ wgL_5_16.1)) dX7_readMore_92 ?_
      refine g_bipush C 95 46 dX7_readMore_95 rfl ?_
      refine g_dup2 C 97 dX7_readMore_97 rfl rfl ?_
      refine g_iald C 98 (1 + 2) 0 (wM_arr 2 (by decide)) rfl dX7_readMore_98 ?_
      refine g_iconst C 99 1 dX7_readMore_99 rfl ?_
      refine g_iadd C 100 dX7_readMore_100 ?_
      refine g_iast C 101 (1 + 2) 0 2 (wM_arr 2 (by decide)) (wM_aset 2 (by decide)) rfl dX7_readMore_101 (fun u13 => ?_)
      refine g_goto C 102 162 dX7_readMore_102 (by decide) ?_
      exact g_vret C 162 dX7_readMore_162
  · skip
    refine g_aload_n C 6 0 dX7_readMore_6 rfl ?_
    refine g_iconst C 7 2 dX7_readMore_7 rfl ?_
    refine g_aload_n C 8 0 dX7_readMore_8 rfl ?_
    refine gfM_X7_readCases C 9 iX7 (List.mem_cons_of_mem _ (List.mem_append_right _ wgL_15_8.1)) dX7_readMore_9 ?_
    refine g_imul C 12 dX7_readMore_12 ?_
    refine g_callVv (st := []) (As := [.int (2 * (u.1 2))]) C E0_ok E0_vm 13 0 1 (tX7_readFlame F (2 * (u.1 2)) u) rfl gX7_readMore_X7_readFlame rfl rfl rfl (by decide +kernel) ⟨Nat.le_of_ble_eq_true rfl, Nat.le_of_ble_eq_true rfl⟩ rfl rfl rfl (Nat.le_of_ble_eq_true rfl) dX7_readMore_13 (fun u14 => ?_)
    refine g_aload_n C 16 0 dX7_readMore_16 rfl ?_
    refine g_iconst C 17 2 dX7_readMore_17 rfl ?_
    refine g_aload_n C 18 0 dX7_readMore_18 rfl ?_
    refine gfM_X7_readCases C 19 iX7 (List.mem_cons_of_mem _ (List.mem_append_right _ wgL_15_8.1)) dX7_readMore_19 ?_
    refine g_imul C 22 dX7_readMore_22 ?_
    refine g_iconst C 23 1 dX7_readMore_23 rfl ?_
    refine g_iadd C 24 dX7_readMore_24 ?_
    refine g_callVv (st := []) (As := [.int ((2 * (u14.1 2)) + 1)]) C E0_ok E0_vm 25 0 1 (tX7_readFlame F ((2 * (u14.1 2)) + 1) u14) rfl gX7_readMore_X7_readFlame rfl rfl rfl (by decide +kernel) ⟨Nat.le_of_ble_eq_true rfl, Nat.le_of_ble_eq_true rfl⟩ rfl rfl rfl (Nat.le_of_ble_eq_true rfl) dX7_readMore_25 (fun u15 => ?_)
    refine g_aload_n C 28 0 dX7_readMore_28 rfl ?_
    refine g_dup C 29 dX7_readMore_29 rfl ?_
    refine gfM_X7_readCases C 30 iX7 (List.mem_cons_of_mem _ (List.mem_append_right _ wgL_15_8.1)) dX7_readMore_30 ?_
    refine g_iconst C 33 1 dX7_readMore_33 rfl ?_
    refine g_iadd C 34 dX7_readMore_34 ?_
    refine pfM_X7_readCases C 35 iX7 (List.mem_cons_of_mem _ (List.mem_append_right _ wgL_15_8.1)) dX7_readMore_35 (fun u16 => ?_)
    refine g_goto C 38 162 dX7_readMore_38 (by decide) ?_
    exact g_vret C 162 dX7_readMore_162
def pX7_readLine (F : Nat)  (u : St) : Option (Unit × St) :=
  bd (pX7_nameHere F u) (fun (r2 : Int32) (u1 : St) => bd (pX7_in F (Int32.toInt64 r2) 4 10 u1) (fun (r4 : Int32) (u3 : St) => if r4 = 0 then bd (pX7_fails F 2 u3) (fun (_ : Unit) (u21 : St) => some ((), u21)) else jn (fun (u5 : St) => jn (fun (u6 : St) => jn (fun (a7 : Int32) (u8 : St) => gd (z01 a7) (vl (stf u8 4 a7) (fun (u9 : St) => bd (pX7_step F u9) (fun (_ : Unit) (u10 : St) => if (u10.1 9) ≤ 0 then bd (pX7_readMore F r2 u10) (fun (_ : Unit) (u11 : St) => jn (fun (u12 : St) => bd (pX7_step F u12) (fun (_ : Unit) (u13 : St) => some ((), u13))) (fun (J152 : St → Option (Unit × St)) => if (u11.1 9) = 0 then if (u11.1 13) = 3 then (J152 u11) else bd (pX7_fails F 2 u11) (fun (_ : Unit) (u14 : St) => (J152 u14)) else (J152 u11))) else some ((), u10))))) (fun (J112 : Int32 → St → Option (Unit × St)) => jn (fun (u15 : St) => (J112 1 u15)) (fun (J107 : St → Option (Unit × St)) => if (u6.1 4) = 0 then if r2 = 10 then (J107 u6) else (J112 0 u6) else (J107 u6)))) (fun (J93 : St → Option (Unit × St)) => if r2 = 10 then if (u5.1 4) = 0 then (J93 u5) else bd (pX7_fails F 4 u5) (fun (_ : Unit) (u16 : St) => (J93 u16)) else (J93 u5))) (fun (J75 : St → Option (Unit × St)) => jn (fun (u17 : St) => bd (pX7_fails F 5 u17) (fun (_ : Unit) (u18 : St) => (J75 u18))) (fun (J70 : St → Option (Unit × St)) => jn (fun (u19 : St) => jn (fun (u20 : St) => if r2 = 9 then gd (inb 46 68) (if (u20.2 2 (Int32.toNatClampNeg 46)) = 4 then (J70 u20) else (J75 u20)) else (J75 u20)) (fun (J53 : St → Option (Unit × St)) => if 7 < r2 then (J53 u19) else if (u19.1 3) = 3 then (J70 u19) else (J53 u19))) (fun (J39 : St → Option (Unit × St)) => if r2 = 8 then if (u3.1 2) = 4 then (J70 u3) else (J39 u3) else (J39 u3))))))
set_option maxRecDepth 100000 in
set_option maxHeartbeats 4000000 in
theorem tX7_readLine {l : Launch} {D : va_G} {cI cZ : ClassId} {ad : Nat → Nat} (F : Nat)  (u : St) : CtV l D [(cI, .int), (cZ, .boolean)] (wM ad cI cZ) E0 yX7_readLine wsX7_readLine ({ frames := 5, cells := 0, slots := 0, locals := 112 } : Room) [.ref (ad 0)] u (pX7_readLine F u) := by
  refine ctV_of (own := RX7) (cc := cX7_readLine) (n := 2) (ret := none) (by decide) rfl rfl (Nat.le_of_ble_eq_true rfl) (lv := [(0, .ref (ad 0))]) rfl (fun C => ?_)
  have iX7 : ∀ w ∈ wsX70, w ∈ wsX7_readLine := fun w h => List.mem_cons_of_mem _ (List.mem_append_right _ (inlX7 w h))
  rw [pX7_readLine]
  refine g_aload_n C 0 0 dX7_readLine_0 rfl ?_
  refine g_callVi (st := []) (As := []) C E0_ok E0_vm 1 0 0 (tX7_nameHere F u) rfl gX7_readLine_X7_nameHere rfl rfl rfl (by decide +kernel) ⟨Nat.le_of_ble_eq_true rfl, Nat.le_of_ble_eq_true rfl⟩ rfl rfl rfl (Nat.le_of_ble_eq_true rfl) dX7_readLine_1 (fun r2 u1 => ?_)
  refine g_istore_n C 4 [(1, .int r2), (0, .ref (ad 0))] dX7_readLine_4 (by decide) rfl ?_
  refine g_iload_n C 5 0 dX7_readLine_5 rfl ?_
  refine g_i2l C 6 dX7_readLine_6 ?_
  refine g_ldc2 C 7 4 (by decide +kernel) dX7_readLine_7 ?_
  refine g_ldc2 C 10 10 (by decide +kernel) dX7_readLine_10 ?_
  refine g_callSi (st := []) (As := [.long (Int32.toInt64 r2), .long 4, .long 10]) C E0_ok E0_vm 13 3 (tX7_in F (Int32.toInt64 r2) 4 10 u1) rfl gX7_readLine_X7_in rfl rfl rfl (by decide +kernel) ⟨Nat.le_of_ble_eq_true rfl, Nat.le_of_ble_eq_true rfl⟩ rfl (Nat.le_of_ble_eq_true rfl) dX7_readLine_13 (fun r4 u3 => ?_)
  refine g_if_ne C 16 25 dX7_readLine_16 (by decide) ?_ ?_
  · skip
    refine g_iload_n C 25 0 dX7_readLine_25 rfl ?_
    refine g_bipush C 26 8 dX7_readLine_26 rfl ?_
    refine g_jn0 75 ([(0, .ref (ad 0)), (1, .int r2)]) ([]) (fun u5 => ?_) (fun J75 hJ75 => ?_)
    · skip
      refine g_iload_n C 75 1 dX7_readLine_75 rfl ?_
      refine g_bipush C 76 10 dX7_readLine_76 rfl ?_
      refine g_jn0 93 ([(0, .ref (ad 0)), (1, .int r2)]) ([]) (fun u6 => ?_) (fun J93 hJ93 => ?_)
      · skip
        refine g_aload_n C 93 0 dX7_readLine_93 rfl ?_
        refine g_aload_n C 94 0 dX7_readLine_94 rfl ?_
        refine gfM_X7_isDocketTold C 95 iX7 (List.mem_cons_of_mem _ (List.mem_append_right _ wgL_15_10.1)) dX7_readLine_95 ?_
        refine g_jn1 112 (fun (a7 : Int32) => [(0, .ref (ad 0)), (1, .int r2)]) (fun (a7 : Int32) => [.int a7, .ref (ad 0)]) (fun a7 u8 => ?_) (fun J112 hJ112 => ?_)
        · skip
          refine pfM_X7_isDocketTold C 112 iX7 (List.mem_cons_of_mem _ (List.mem_append_right _ wgL_15_10.1)) dX7_readLine_112 (fun u9 => ?_)
          refine g_aload_n C 115 0 dX7_readLine_115 rfl ?_
          refine g_callVv (st := []) (As := []) C E0_ok E0_vm 116 0 0 (tX7_step F u9) rfl gX7_readLine_X7_step rfl rfl rfl (by decide +kernel) ⟨Nat.le_of_ble_eq_true rfl, Nat.le_of_ble_eq_true rfl⟩ rfl rfl rfl (Nat.le_of_ble_eq_true rfl) dX7_readLine_116 (fun u10 => ?_)
          refine g_aload_n C 119 0 dX7_readLine_119 rfl ?_
          refine gfM_X7_broken C 120 iX7 (List.mem_cons_of_mem _ (List.mem_append_right _ wgL_15_6.1)) dX7_readLine_120 ?_
          refine g_if_le C 123 127 dX7_readLine_123 (by decide) ?_ ?_
          · skip
            refine g_aload_n C 127 0 dX7_readLine_127 rfl ?_
            refine g_iload_n C 128 1 dX7_readLine_128 rfl ?_
            refine g_callVv (st := []) (As := [.int r2]) C E0_ok E0_vm 129 0 1 (tX7_readMore F r2 u10) rfl gX7_readLine_X7_readMore rfl rfl rfl (by decide +kernel) ⟨Nat.le_of_ble_eq_true rfl, Nat.le_of_ble_eq_true rfl⟩ rfl rfl rfl (Nat.le_of_ble_eq_true rfl) dX7_readLine_129 (fun u11 => ?_)
            refine g_aload_n C 132 0 dX7_readLine_132 rfl ?_
            refine gfM_X7_broken C 133 iX7 (List.mem_cons_of_mem _ (List.mem_append_right _ wgL_15_6.1)) dX7_readLine_133 ?_
            refine g_jn0 152 ([(0, .ref (ad 0))]) ([]) (fun u12 => ?_) (fun J152 hJ152 => ?_)
            · skip
              refine g_aload_n C 152 0 dX7_readLine_152 rfl ?_
              refine g_callVv (st := []) (As := []) C E0_ok E0_vm 153 0 0 (tX7_step F u12) rfl gX7_readLine_X7_step rfl rfl rfl (by decide +kernel) ⟨Nat.le_of_ble_eq_true rfl, Nat.le_of_ble_eq_true rfl⟩ rfl rfl rfl (Nat.le_of_ble_eq_true rfl) dX7_readLine_153 (fun u13 => ?_)
              exact g_vret C 156 dX7_readLine_156
            · skip
              refine g_if_ne C 136 152 dX7_readLine_136 (by decide) ?_ ?_
              · skip
                exact g_sub _ [0] rfl (hJ152 u11)
              · skip
                refine g_aload_n C 139 0 dX7_readLine_139 rfl ?_
                refine gfM_X7_token C 140 iX7 (List.mem_cons_of_mem _ (List.mem_append_right _ wgL_15_13.1)) dX7_readLine_140 ?_
                refine g_iconst C 143 3 dX7_readLine_143 rfl ?_
                refine g_icmp_eq C 144 152 dX7_readLine_144 (by decide) ?_ ?_
                · skip
                  exact g_sub _ [0] rfl (hJ152 u11)
                · skip
                  refine g_aload_n C 147 0 dX7_readLine_147 rfl ?_
                  refine g_iconst C 148 2 dX7_readLine_148 rfl ?_
                  refine g_callVv (st := []) (As := [.int 2]) C E0_ok E0_vm 149 0 1 (tX7_fails F 2 u11) rfl gX7_readLine_X7_fails rfl rfl rfl (by decide +kernel) ⟨Nat.le_of_ble_eq_true rfl, Nat.le_of_ble_eq_true rfl⟩ rfl rfl rfl (Nat.le_of_ble_eq_true rfl) dX7_readLine_149 (fun u14 => ?_)
                  exact g_sub _ [0] rfl (hJ152 u14)
          · skip
            exact g_vret C 126 dX7_readLine_126
        · skip
          refine g_jn0 107 ([(0, .ref (ad 0)), (1, .int r2)]) ([.ref (ad 0)]) (fun u15 => ?_) (fun J107 hJ107 => ?_)
          · skip
            refine g_iconst C 107 1 dX7_readLine_107 rfl ?_
            refine g_goto C 108 112 dX7_readLine_108 (by decide) ?_
            exact g_sub _ [0, 1] rfl (hJ112 1 u15)
          · skip
            refine g_if_ne C 98 107 dX7_readLine_98 (by decide) ?_ ?_
            · skip
              exact g_sub _ [0, 1] rfl (hJ107 u6)
            · skip
              refine g_iload_n C 101 1 dX7_readLine_101 rfl ?_
              refine g_bipush C 102 10 dX7_readLine_102 rfl ?_
              refine g_icmp_ne C 104 111 dX7_readLine_104 (by decide) ?_ ?_
              · skip
                refine g_iconst C 111 0 dX7_readLine_111 rfl ?_
                exact g_sub _ [0, 1] rfl (hJ112 0 u6)
              · skip
                exact g_sub _ [0, 1] rfl (hJ107 u6)
      · skip
        refine g_icmp_ne C 78 93 dX7_readLine_78 (by decide) ?_ ?_
        · skip
          exact g_sub _ [0, 1] rfl (hJ93 u5)
        · skip
          refine g_aload_n C 81 0 dX7_readLine_81 rfl ?_
          refine gfM_X7_isDocketTold C 82 iX7 (List.mem_cons_of_mem _ (List.mem_append_right _ wgL_15_10.1)) dX7_readLine_82 ?_
          refine g_if_eq C 85 93 dX7_readLine_85 (by decide) ?_ ?_
          · skip
            exact g_sub _ [0, 1] rfl (hJ93 u5)
          · skip
            refine g_aload_n C 88 0 dX7_readLine_88 rfl ?_
            refine g_iconst C 89 4 dX7_readLine_89 rfl ?_
            refine g_callVv (st := []) (As := [.int 4]) C E0_ok E0_vm 90 0 1 (tX7_fails F 4 u5) rfl gX7_readLine_X7_fails rfl rfl rfl (by decide +kernel) ⟨Nat.le_of_ble_eq_true rfl, Nat.le_of_ble_eq_true rfl⟩ rfl rfl rfl (Nat.le_of_ble_eq_true rfl) dX7_readLine_90 (fun u16 => ?_)
            exact g_sub _ [0, 1] rfl (hJ93 u16)
    · skip
      refine g_jn0 70 ([(0, .ref (ad 0)), (1, .int r2)]) ([]) (fun u17 => ?_) (fun J70 hJ70 => ?_)
      · skip
        refine g_aload_n C 70 0 dX7_readLine_70 rfl ?_
        refine g_iconst C 71 5 dX7_readLine_71 rfl ?_
        refine g_callVv (st := []) (As := [.int 5]) C E0_ok E0_vm 72 0 1 (tX7_fails F 5 u17) rfl gX7_readLine_X7_fails rfl rfl rfl (by decide +kernel) ⟨Nat.le_of_ble_eq_true rfl, Nat.le_of_ble_eq_true rfl⟩ rfl rfl rfl (Nat.le_of_ble_eq_true rfl) dX7_readLine_72 (fun u18 => ?_)
        exact g_sub _ [0, 1] rfl (hJ75 u18)
      · skip
        refine g_jn0 39 ([(0, .ref (ad 0)), (1, .int r2)]) ([]) (fun u19 => ?_) (fun J39 hJ39 => ?_)
        · skip
          refine g_iload_n C 39 1 dX7_readLine_39 rfl ?_
          refine g_bipush C 40 7 dX7_readLine_40 rfl ?_
          refine g_jn0 53 ([(0, .ref (ad 0)), (1, .int r2)]) ([]) (fun u20 => ?_) (fun J53 hJ53 => ?_)
          · skip
            refine g_iload_n C 53 1 dX7_readLine_53 rfl ?_
            refine g_bipush C 54 9 dX7_readLine_54 rfl ?_
            refine g_icmp_ne C 56 75 dX7_readLine_56 (by decide) ?_ ?_
            · skip
              exact g_sub _ [0, 1] rfl (hJ75 u20)
            · skip
              refine g_aload_n C 59 0 dX7_readLine_59 rfl ?_
              refine gfM_X7_readPage C 60 iX7 (List.mem_cons_of_mem _ (List.mem_append_right _ wgL_5_16.1)) dX7_readLine_60 ?_
              refine g_bipush C 63 46 dX7_readLine_63 rfl ?_
              refine g_iald C 65 (1 + 2) 0 (wM_arr 2 (by decide)) rfl dX7_readLine_65 ?_
              refine g_iconst C 66 4 dX7_readLine_66 rfl ?_
              refine g_icmp_ne C 67 75 dX7_readLine_67 (by decide) ?_ ?_
              · skip
                exact g_sub _ [0, 1] rfl (hJ75 u20)
              · skip
                exact g_sub _ [0, 1] rfl (hJ70 u20)
          · skip
            refine g_icmp_gt C 42 53 dX7_readLine_42 (by decide) ?_ ?_
            · skip
              exact g_sub _ [0, 1] rfl (hJ53 u19)
            · skip
              refine g_aload_n C 45 0 dX7_readLine_45 rfl ?_
              refine gfM_X7_readJudges C 46 iX7 (List.mem_cons_of_mem _ (List.mem_append_right _ wgL_15_9.1)) dX7_readLine_46 ?_
              refine g_iconst C 49 3 dX7_readLine_49 rfl ?_
              refine g_icmp_eq C 50 70 dX7_readLine_50 (by decide) ?_ ?_
              · skip
                exact g_sub _ [0, 1] rfl (hJ70 u19)
              · skip
                exact g_sub _ [0, 1] rfl (hJ53 u19)
        · skip
          refine g_icmp_ne C 28 39 dX7_readLine_28 (by decide) ?_ ?_
          · skip
            exact g_sub _ [1, 0] rfl (hJ39 u3)
          · skip
            refine g_aload_n C 31 1 dX7_readLine_31 rfl ?_
            refine gfM_X7_readCases C 32 iX7 (List.mem_cons_of_mem _ (List.mem_append_right _ wgL_15_8.1)) dX7_readLine_32 ?_
            refine g_iconst C 35 4 dX7_readLine_35 rfl ?_
            refine g_icmp_eq C 36 70 dX7_readLine_36 (by decide) ?_ ?_
            · skip
              exact g_sub _ [1, 0] rfl (hJ70 u3)
            · skip
              exact g_sub _ [1, 0] rfl (hJ39 u3)
  · skip
    refine g_aload_n C 19 1 dX7_readLine_19 rfl ?_
    refine g_iconst C 20 2 dX7_readLine_20 rfl ?_
    refine g_callVv (st := []) (As := [.int 2]) C E0_ok E0_vm 21 0 1 (tX7_fails F 2 u3) rfl gX7_readLine_X7_fails rfl rfl rfl (by decide +kernel) ⟨Nat.le_of_ble_eq_true rfl, Nat.le_of_ble_eq_true rfl⟩ rfl rfl rfl (Nat.le_of_ble_eq_true rfl) dX7_readLine_21 (fun u21 => ?_)
    exact g_vret C 24 dX7_readLine_24
end
section
def jX7_text_175 (F : Nat) (a10 : Int32)  (u15 : St) : Option (Int32 × St) :=
  vl (stf u15 0 (u15.1 2)) (fun (u16 : St) => vl (stf u16 1 (u16.1 3)) (fun (u17 : St) => vl (stf u17 21 0) (fun (u18 : St) => gd (inb 0 2) (vl (stz u18 12 0 0) (fun (u19 : St) => gd (inb 1 2) (vl (stz u19 12 1 0) (fun (u20 : St) => some (a10, u20))))))))
def bX7_text_151 (F : Nat) (J175 : St → Option (Int32 × St)) (self23 : Int32 → St → Option (Int32 × St)) (x21 : Int32) (u22 : St) : Option (Int32 × St) :=
  if 68 ≤ x21 then (J175 u22) else gd (inb x21 68) (gd (inb x21 408) (vl (sta u22 0 x21 (u22.2 2 (Int32.toNatClampNeg x21))) (fun (u24 : St) => (self23 (x21 + 1) u24))))
def jX7_text_86 (F : Nat)  (a10 : Int32) (u11 : St) : Option (Int32 × St) :=
  jn (fun (u12 : St) => vl (stf u12 7 0) (fun (u13 : St) => vl (stf u13 8 (u13.1 9)) (fun (u14 : St) => if (u14.1 9) ≤ 0 then jn (jX7_text_175 F a10) (fun (J175 : St → Option (Int32 × St)) => (lq1 (bX7_text_151 F J175) F 0 u14)) else some (((-10) - (u14.1 10)), u14)))) (fun (J121 : St → Option (Int32 × St)) => if (u11.1 9) = 0 then jn (fun (u25 : St) => bd (pX7_fails F 6 u25) (fun (_ : Unit) (u26 : St) => (J121 u26))) (fun (J115 : St → Option (Int32 × St)) => if (u11.1 2) ≤ (u11.1 5) then (J115 u11) else if (u11.1 6) < (u11.1 3) then (J121 u11) else (J115 u11)) else (J121 u11))
def bX7_text_62 (F : Nat) (J86 : Int32 → St → Option (Int32 × St)) (self29 : Int32 → St → Option (Int32 × St)) (x27 : Int32) (u28 : St) : Option (Int32 × St) :=
  if (u28.1 9) = 0 then if (u28.1 13) = 0 then (J86 x27 u28) else bd (pX7_readLine F u28) (fun (_ : Unit) (u30 : St) => (self29 (x27 + 1) u30)) else (J86 x27 u28)
def jX7_text_58 (F : Nat)   (u8 : St) : Option (Int32 × St) :=
  bd (pX7_step F u8) (fun (_ : Unit) (u9 : St) => jn (jX7_text_86 F) (fun (J86 : Int32 → St → Option (Int32 × St)) => (lq1 (bX7_text_62 F J86) F 0 u9)))
def bX7_text_39 (F : Nat) (J58 : St → Option (Int32 × St)) (self33 : Int32 → St → Option (Int32 × St)) (x31 : Int32) (u32 : St) : Option (Int32 × St) :=
  if 68 ≤ x31 then (J58 u32) else gd (inb x31 68) (vl (sta u32 2 x31 0) (fun (u34 : St) => (self33 (x31 + 1) u34)))
def pX7_text (F : Nat)  (u : St) : Option (Int32 × St) :=
  vl (stf u 9 0) (fun (u1 : St) => vl (stf u1 11 0) (fun (u2 : St) => vl (stf u2 2 0) (fun (u3 : St) => vl (stf u3 3 0) (fun (u4 : St) => gd (z01 0) (vl (stf u4 4 0) (fun (u5 : St) => vl (stf u5 5 (-1)) (fun (u6 : St) => vl (stf u6 6 (-1)) (fun (u7 : St) => jn (jX7_text_58 F) (fun (J58 : St → Option (Int32 × St)) => (lq1 (bX7_text_39 F J58) F 0 u7))))))))))
set_option maxRecDepth 100000 in
set_option maxHeartbeats 4000000 in
theorem tX7_text {l : Launch} {D : va_G} {cI cZ : ClassId} {ad : Nat → Nat} (F : Nat)  (u : St) : CtI l D [(cI, .int), (cZ, .boolean)] (wM ad cI cZ) E0 yX7_text wsX7_text ({ frames := 6, cells := 0, slots := 0, locals := 133 } : Room) [.ref (ad 0)] u (pX7_text F u) := by
  refine ctI_of (own := RX7) (cc := cX7_text) (n := 3) (ret := (some .int)) (by decide) rfl rfl (Nat.le_of_ble_eq_true rfl) (lv := [(0, .ref (ad 0))]) rfl (fun C => ?_)
  have iX7 : ∀ w ∈ wsX70, w ∈ wsX7_text := fun w h => List.mem_cons_of_mem _ (List.mem_append_right _ (inlX7 w h))
  rw [pX7_text]
  refine g_aload_n C 0 0 dX7_text_0 rfl ?_
  refine g_iconst C 1 0 dX7_text_1 rfl ?_
  refine pfM_X7_broken C 2 iX7 (List.mem_cons_of_mem _ (List.mem_append_right _ wgL_15_6.1)) dX7_text_2 (fun u1 => ?_)
  refine g_aload_n C 5 0 dX7_text_5 rfl ?_
  refine g_iconst C 6 0 dX7_text_6 rfl ?_
  refine pfM_X7_spot C 7 iX7 (List.mem_cons_of_mem _ (List.mem_append_right _ wgL_15_7.1)) dX7_text_7 (fun u2 => ?_)
  refine g_aload_n C 10 0 dX7_text_10 rfl ?_
  refine g_iconst C 11 0 dX7_text_11 rfl ?_
  refine pfM_X7_readCases C 12 iX7 (List.mem_cons_of_mem _ (List.mem_append_right _ wgL_15_8.1)) dX7_text_12 (fun u3 => ?_)
  refine g_aload_n C 15 0 dX7_text_15 rfl ?_
  refine g_iconst C 16 0 dX7_text_16 rfl ?_
  refine pfM_X7_readJudges C 17 iX7 (List.mem_cons_of_mem _ (List.mem_append_right _ wgL_15_9.1)) dX7_text_17 (fun u4 => ?_)
  refine g_aload_n C 20 0 dX7_text_20 rfl ?_
  refine g_iconst C 21 0 dX7_text_21 rfl ?_
  refine pfM_X7_isDocketTold C 22 iX7 (List.mem_cons_of_mem _ (List.mem_append_right _ wgL_15_10.1)) dX7_text_22 (fun u5 => ?_)
  refine g_aload_n C 25 0 dX7_text_25 rfl ?_
  refine g_iconst C 26 (-1) dX7_text_26 rfl ?_
  refine pfM_X7_highCase C 27 iX7 (List.mem_cons_of_mem _ (List.mem_append_right _ wgL_15_11.1)) dX7_text_27 (fun u6 => ?_)
  refine g_aload_n C 30 0 dX7_text_30 rfl ?_
  refine g_iconst C 31 (-1) dX7_text_31 rfl ?_
  refine pfM_X7_highJudge C 32 iX7 (List.mem_cons_of_mem _ (List.mem_append_right _ wgL_15_12.1)) dX7_text_32 (fun u7 => ?_)
  refine g_iconst C 35 0 dX7_text_35 rfl ?_
  refine g_istore_n C 36 [(1, .int 0), (0, .ref (ad 0))] dX7_text_36 (by decide) rfl ?_
  refine g_iconst C 37 0 dX7_text_37 rfl ?_
  refine g_istore_n C 38 [(2, .int 0), (1, .int 0), (0, .ref (ad 0))] dX7_text_38 (by decide) rfl ?_
  refine g_jn0 58 ([(0, .ref (ad 0)), (1, .int 0)]) ([]) (fun u8 => ?_) (fun J58 hJ58 => ?_)
  · skip
    rw [jX7_text_58]
    refine g_aload_n C 58 0 dX7_text_58 rfl ?_
    refine g_callVv (st := []) (As := []) C E0_ok E0_vm 59 0 0 (tX7_step F u8) rfl gX7_text_X7_step rfl rfl rfl (by decide +kernel) ⟨Nat.le_of_ble_eq_true rfl, Nat.le_of_ble_eq_true rfl⟩ rfl rfl rfl (Nat.le_of_ble_eq_true rfl) dX7_text_59 (fun u9 => ?_)
    refine g_jn1 86 (fun (a10 : Int32) => [(0, .ref (ad 0)), (1, .int a10)]) (fun (a10 : Int32) => []) (fun a10 u11 => ?_) (fun J86 hJ86 => ?_)
    · skip
      rw [jX7_text_86]
      refine g_aload_n C 86 0 dX7_text_86 rfl ?_
      refine gfM_X7_broken C 87 iX7 (List.mem_cons_of_mem _ (List.mem_append_right _ wgL_15_6.1)) dX7_text_87 ?_
      refine g_jn0 121 ([(0, .ref (ad 0)), (1, .int a10)]) ([]) (fun u12 => ?_) (fun J121 hJ121 => ?_)
      · skip
        refine g_aload_n C 121 0 dX7_text_121 rfl ?_
        refine g_iconst C 122 0 dX7_text_122 rfl ?_
        refine pfM_X7_taped C 123 iX7 (List.mem_cons_of_mem _ (List.mem_append_right _ wgL_6_20.1)) dX7_text_123 (fun u13 => ?_)
        refine g_aload_n C 126 0 dX7_text_126 rfl ?_
        refine g_aload_n C 127 0 dX7_text_127 rfl ?_
        refine gfM_X7_broken C 128 iX7 (List.mem_cons_of_mem _ (List.mem_append_right _ wgL_15_6.1)) dX7_text_128 ?_
        refine pfM_X7_fault C 131 iX7 (List.mem_cons_of_mem _ (List.mem_append_right _ wgL_15_14.1)) dX7_text_131 (fun u14 => ?_)
        refine g_aload_n C 134 0 dX7_text_134 rfl ?_
        refine gfM_X7_broken C 135 iX7 (List.mem_cons_of_mem _ (List.mem_append_right _ wgL_15_6.1)) dX7_text_135 ?_
        refine g_if_le C 138 149 dX7_text_138 (by decide) ?_ ?_
        · skip
          refine g_iconst C 149 0 dX7_text_149 rfl ?_
          refine g_istore_n C 150 [(2, .int 0), (0, .ref (ad 0)), (1, .int a10)] dX7_text_150 (by decide) rfl ?_
          refine g_jn0 175 ([(0, .ref (ad 0)), (1, .int a10)]) ([]) (fun u15 => ?_) (fun J175 hJ175 => ?_)
          · skip
            rw [jX7_text_175]
            refine g_aload_n C 175 0 dX7_text_175 rfl ?_
            refine g_aload_n C 176 0 dX7_text_176 rfl ?_
            refine gfM_X7_readCases C 177 iX7 (List.mem_cons_of_mem _ (List.mem_append_right _ wgL_15_8.1)) dX7_text_177 ?_
            refine pfM_X7_caseMany C 180 iX7 (List.mem_cons_of_mem _ (List.mem_append_right _ wgL_15_16.1)) dX7_text_180 (fun u16 => ?_)
            refine g_aload_n C 183 0 dX7_text_183 rfl ?_
            refine g_aload_n C 184 0 dX7_text_184 rfl ?_
            refine gfM_X7_readJudges C 185 iX7 (List.mem_cons_of_mem _ (List.mem_append_right _ wgL_15_9.1)) dX7_text_185 ?_
            refine pfM_X7_judgeMany C 188 iX7 (List.mem_cons_of_mem _ (List.mem_append_right _ wgL_15_17.1)) dX7_text_188 (fun u17 => ?_)
            refine g_aload_n C 191 0 dX7_text_191 rfl ?_
            refine g_iconst C 192 0 dX7_text_192 rfl ?_
            refine pfM_X7_seenMany C 193 iX7 (List.mem_cons_of_mem _ (List.mem_append_right _ wgL_15_18.1)) dX7_text_193 (fun u18 => ?_)
            refine g_aload_n C 196 0 dX7_text_196 rfl ?_
            refine gfM_X7_isKept C 197 iX7 (List.mem_cons_of_mem _ (List.mem_append_right _ wgL_5_23.1)) dX7_text_197 ?_
            refine g_iconst C 200 0 dX7_text_200 rfl ?_
            refine g_iconst C 201 0 dX7_text_201 rfl ?_
            refine g_zast C 202 (1 + 12) 1 12 (wM_arrz 12 (by decide) (by decide)) (wM_asetz 12 (by decide) (by decide)) rfl dX7_text_202 (fun u19 => ?_)
            refine g_aload_n C 203 0 dX7_text_203 rfl ?_
            refine gfM_X7_isKept C 204 iX7 (List.mem_cons_of_mem _ (List.mem_append_right _ wgL_5_23.1)) dX7_text_204 ?_
            refine g_iconst C 207 1 dX7_text_207 rfl ?_
            refine g_iconst C 208 0 dX7_text_208 rfl ?_
            refine g_zast C 209 (1 + 12) 1 12 (wM_arrz 12 (by decide) (by decide)) (wM_asetz 12 (by decide) (by decide)) rfl dX7_text_209 (fun u20 => ?_)
            refine g_iload_n C 210 1 dX7_text_210 rfl ?_
            exact g_iret C 211 dX7_text_211
          · skip
            refine g_sub _ [1, 2, 0] rfl ?_
            refine g_lq1 (fun (x21 : Int32) => [(0, .ref (ad 0)), (1, .int a10), (2, .int x21)]) (fun self23 hself23 x21 u22 => ?_) F 0 u14
            rw [bX7_text_151]
            refine g_iload_n C 151 2 dX7_text_151 rfl ?_
            refine g_bipush C 152 68 dX7_text_152 rfl ?_
            refine g_icmp_ge C 154 175 dX7_text_154 (by decide) ?_ ?_
            · skip
              exact g_sub _ [0, 1] rfl (hJ175 u22)
            · skip
              refine g_aload_n C 157 0 dX7_text_157 rfl ?_
              refine gfM_X7_state C 158 iX7 (List.mem_cons_of_mem _ (List.mem_append_right _ wgL_5_14.1)) dX7_text_158 ?_
              refine g_iload_n C 161 2 dX7_text_161 rfl ?_
              refine g_aload_n C 162 0 dX7_text_162 rfl ?_
              refine gfM_X7_readPage C 163 iX7 (List.mem_cons_of_mem _ (List.mem_append_right _ wgL_5_16.1)) dX7_text_163 ?_
              refine g_iload_n C 166 2 dX7_text_166 rfl ?_
              refine g_iald C 167 (1 + 2) 0 (wM_arr 2 (by decide)) rfl dX7_text_167 ?_
              refine g_iast C 168 (1 + 0) 0 0 (wM_arr 0 (by decide)) (wM_aset 0 (by decide)) rfl dX7_text_168 (fun u24 => ?_)
              refine g_iinc C 169 2 [(2, .int (x21 + 1)), (0, .ref (ad 0)), (1, .int a10)] dX7_text_169 rfl rfl (by decide) rfl ?_
              refine g_goto C 172 151 dX7_text_172 (by decide) ?_
              exact g_sub _ [1, 2, 0] rfl (hself23 (x21 + 1) u24)
        · skip
          refine g_bipush C 141 (-10) dX7_text_141 rfl ?_
          refine g_aload_n C 143 0 dX7_text_143 rfl ?_
          refine gfM_X7_brokenAt C 144 iX7 (List.mem_cons_of_mem _ (List.mem_append_right _ wgL_15_15.1)) dX7_text_144 ?_
          refine g_isub C 147 dX7_text_147 ?_
          exact g_iret C 148 dX7_text_148
      · skip
        refine g_if_ne C 90 121 dX7_text_90 (by decide) ?_ ?_
        · skip
          exact g_sub _ [0, 1] rfl (hJ121 u11)
        · skip
          refine g_aload_n C 93 0 dX7_text_93 rfl ?_
          refine gfM_X7_highCase C 94 iX7 (List.mem_cons_of_mem _ (List.mem_append_right _ wgL_15_11.1)) dX7_text_94 ?_
          refine g_aload_n C 97 0 dX7_text_97 rfl ?_
          refine gfM_X7_readCases C 98 iX7 (List.mem_cons_of_mem _ (List.mem_append_right _ wgL_15_8.1)) dX7_text_98 ?_
          refine g_jn0 115 ([(0, .ref (ad 0)), (1, .int a10)]) ([]) (fun u25 => ?_) (fun J115 hJ115 => ?_)
          · skip
            refine g_aload_n C 115 0 dX7_text_115 rfl ?_
            refine g_bipush C 116 6 dX7_text_116 rfl ?_
            refine g_callVv (st := []) (As := [.int 6]) C E0_ok E0_vm 118 0 1 (tX7_fails F 6 u25) rfl gX7_text_X7_fails rfl rfl rfl (by decide +kernel) ⟨Nat.le_of_ble_eq_true rfl, Nat.le_of_ble_eq_true rfl⟩ rfl rfl rfl (Nat.le_of_ble_eq_true rfl) dX7_text_118 (fun u26 => ?_)
            exact g_sub _ [0, 1] rfl (hJ121 u26)
          · skip
            refine g_icmp_ge C 101 115 dX7_text_101 (by decide) ?_ ?_
            · skip
              exact g_sub _ [0, 1] rfl (hJ115 u11)
            · skip
              refine g_aload_n C 104 0 dX7_text_104 rfl ?_
              refine gfM_X7_highJudge C 105 iX7 (List.mem_cons_of_mem _ (List.mem_append_right _ wgL_15_12.1)) dX7_text_105 ?_
              refine g_aload_n C 108 0 dX7_text_108 rfl ?_
              refine gfM_X7_readJudges C 109 iX7 (List.mem_cons_of_mem _ (List.mem_append_right _ wgL_15_9.1)) dX7_text_109 ?_
              refine g_icmp_lt C 112 121 dX7_text_112 (by decide) ?_ ?_
              · skip
                exact g_sub _ [0, 1] rfl (hJ121 u11)
              · skip
                exact g_sub _ [0, 1] rfl (hJ115 u11)
    · skip
      refine g_sub _ [0, 1] rfl ?_
      refine g_lq1 (fun (x27 : Int32) => [(0, .ref (ad 0)), (1, .int x27)]) (fun self29 hself29 x27 u28 => ?_) F 0 u9
      rw [bX7_text_62]
      refine g_aload_n C 62 0 dX7_text_62 rfl ?_
      refine gfM_X7_broken C 63 iX7 (List.mem_cons_of_mem _ (List.mem_append_right _ wgL_15_6.1)) dX7_text_63 ?_
      refine g_if_ne C 66 86 dX7_text_66 (by decide) ?_ ?_
      · skip
        exact g_sub _ [0, 1] rfl (hJ86 x27 u28)
      · skip
        refine g_aload_n C 69 0 dX7_text_69 rfl ?_
        refine gfM_X7_token C 70 iX7 (List.mem_cons_of_mem _ (List.mem_append_right _ wgL_15_13.1)) dX7_text_70 ?_
        refine g_if_eq C 73 86 dX7_text_73 (by decide) ?_ ?_
        · skip
          exact g_sub _ [0, 1] rfl (hJ86 x27 u28)
        · skip
          refine g_aload_n C 76 0 dX7_text_76 rfl ?_
          refine g_callVv (st := []) (As := []) C E0_ok E0_vm 77 0 0 (tX7_readLine F u28) rfl gX7_text_X7_readLine rfl rfl rfl (by decide +kernel) ⟨Nat.le_of_ble_eq_true rfl, Nat.le_of_ble_eq_true rfl⟩ rfl rfl rfl (Nat.le_of_ble_eq_true rfl) dX7_text_77 (fun u30 => ?_)
          refine g_iinc C 80 1 [(1, .int (x27 + 1)), (0, .ref (ad 0))] dX7_text_80 rfl rfl (by decide) rfl ?_
          refine g_goto C 83 62 dX7_text_83 (by decide) ?_
          exact g_sub _ [1, 0] rfl (hself29 (x27 + 1) u30)
  · skip
    refine g_sub _ [2, 1, 0] rfl ?_
    refine g_lq1 (fun (x31 : Int32) => [(0, .ref (ad 0)), (1, .int 0), (2, .int x31)]) (fun self33 hself33 x31 u32 => ?_) F 0 u7
    rw [bX7_text_39]
    refine g_iload_n C 39 2 dX7_text_39 rfl ?_
    refine g_bipush C 40 68 dX7_text_40 rfl ?_
    refine g_icmp_ge C 42 58 dX7_text_42 (by decide) ?_ ?_
    · skip
      exact g_sub _ [0, 1] rfl (hJ58 u32)
    · skip
      refine g_aload_n C 45 0 dX7_text_45 rfl ?_
      refine gfM_X7_readPage C 46 iX7 (List.mem_cons_of_mem _ (List.mem_append_right _ wgL_5_16.1)) dX7_text_46 ?_
      refine g_iload_n C 49 2 dX7_text_49 rfl ?_
      refine g_iconst C 50 0 dX7_text_50 rfl ?_
      refine g_iast C 51 (1 + 2) 0 2 (wM_arr 2 (by decide)) (wM_aset 2 (by decide)) rfl dX7_text_51 (fun u34 => ?_)
      refine g_iinc C 52 2 [(2, .int (x31 + 1)), (0, .ref (ad 0)), (1, .int 0)] dX7_text_52 rfl rfl (by decide) rfl ?_
      refine g_goto C 55 39 dX7_text_55 (by decide) ?_
      exact g_sub _ [1, 2, 0] rfl (hself33 (x31 + 1) u34)
def pX7_fault (F : Nat)  (u : St) : Option (Int32 × St) :=
  some ((u.1 8), u)
set_option maxRecDepth 100000 in
set_option maxHeartbeats 4000000 in
theorem tX7_fault {l : Launch} {D : va_G} {cI cZ : ClassId} {ad : Nat → Nat} (F : Nat)  (u : St) : CtI l D [(cI, .int), (cZ, .boolean)] (wM ad cI cZ) E0 yX7_fault wsX7_fault ({ frames := 0, cells := 0, slots := 0, locals := 0 } : Room) [.ref (ad 0)] u (pX7_fault F u) := by
  refine ctI_of (own := RX7) (cc := cX7_fault) (n := 1) (ret := (some .int)) (by decide) rfl rfl (Nat.le_of_ble_eq_true rfl) (lv := [(0, .ref (ad 0))]) rfl (fun C => ?_)
  have iX7 : ∀ w ∈ wsX70, w ∈ wsX7_fault := fun w h => List.mem_cons_of_mem _ (List.mem_append_right _ (inlX7 w h))
  rw [pX7_fault]
  refine g_aload_n C 0 0 dX7_fault_0 rfl ?_
  refine gfM_X7_fault C 1 iX7 (List.mem_cons_of_mem _ (List.mem_append_right _ wgL_15_14.1)) dX7_fault_1 ?_
  exact g_iret C 4 dX7_fault_4
def pX7_isCase (F : Nat) (p1 : Int32) (u : St) : Option (Int32 × St) :=
  bd (pX7_in F (Int32.toInt64 p1) 0 (Int32.toInt64 ((u.1 0) - 1)) u) (fun (r2 : Int32) (u1 : St) => gd (z01 r2) (some (r2, u1)))
set_option maxRecDepth 100000 in
set_option maxHeartbeats 4000000 in
theorem tX7_isCase {l : Launch} {D : va_G} {cI cZ : ClassId} {ad : Nat → Nat} (F : Nat) (p1 : Int32) (u : St) : CtI l D [(cI, .int), (cZ, .boolean)] (wM ad cI cZ) E0 yX7_isCase wsX7_isCase ({ frames := 1, cells := 0, slots := 0, locals := 25 } : Room) [.ref (ad 0), .int p1] u (pX7_isCase F p1 u) := by
  refine ctI_of (own := RX7) (cc := cX7_isCase) (n := 2) (ret := (some .boolean)) (by decide) rfl rfl (Nat.le_of_ble_eq_true rfl) (lv := [(0, .ref (ad 0)), (1, .int p1)]) rfl (fun C => ?_)
  have iX7 : ∀ w ∈ wsX70, w ∈ wsX7_isCase := fun w h => List.mem_cons_of_mem _ (List.mem_append_right _ (inlX7 w h))
  rw [pX7_isCase]
  refine g_iload_n C 0 1 dX7_isCase_0 rfl ?_
  refine g_i2l C 1 dX7_isCase_1 ?_
  refine g_lconst C 2 0 dX7_isCase_2 rfl ?_
  refine g_aload_n C 3 0 dX7_isCase_3 rfl ?_
  refine gfM_X7_caseMany C 4 iX7 (List.mem_cons_of_mem _ (List.mem_append_right _ wgL_15_16.1)) dX7_isCase_4 ?_
  refine g_iconst C 7 1 dX7_isCase_7 rfl ?_
  refine g_isub C 8 dX7_isCase_8 ?_
  refine g_i2l C 9 dX7_isCase_9 ?_
  refine g_callSi (st := []) (As := [.long (Int32.toInt64 p1), .long 0, .long (Int32.toInt64 ((u.1 0) - 1))]) C E0_ok E0_vm 10 3 (tX7_in F (Int32.toInt64 p1) 0 (Int32.toInt64 ((u.1 0) - 1)) u) rfl gX7_isCase_X7_in rfl rfl rfl (by decide +kernel) ⟨Nat.le_of_ble_eq_true rfl, Nat.le_of_ble_eq_true rfl⟩ rfl (Nat.le_of_ble_eq_true rfl) dX7_isCase_10 (fun r2 u1 => ?_)
  exact g_zret C 13 dX7_isCase_13
def pX7_isJudge (F : Nat) (p1 : Int32) (u : St) : Option (Int32 × St) :=
  bd (pX7_in F (Int32.toInt64 p1) 0 (Int32.toInt64 ((u.1 1) - 1)) u) (fun (r2 : Int32) (u1 : St) => gd (z01 r2) (some (r2, u1)))
set_option maxRecDepth 100000 in
set_option maxHeartbeats 4000000 in
theorem tX7_isJudge {l : Launch} {D : va_G} {cI cZ : ClassId} {ad : Nat → Nat} (F : Nat) (p1 : Int32) (u : St) : CtI l D [(cI, .int), (cZ, .boolean)] (wM ad cI cZ) E0 yX7_isJudge wsX7_isJudge ({ frames := 1, cells := 0, slots := 0, locals := 25 } : Room) [.ref (ad 0), .int p1] u (pX7_isJudge F p1 u) := by
  refine ctI_of (own := RX7) (cc := cX7_isJudge) (n := 2) (ret := (some .boolean)) (by decide) rfl rfl (Nat.le_of_ble_eq_true rfl) (lv := [(0, .ref (ad 0)), (1, .int p1)]) rfl (fun C => ?_)
  have iX7 : ∀ w ∈ wsX70, w ∈ wsX7_isJudge := fun w h => List.mem_cons_of_mem _ (List.mem_append_right _ (inlX7 w h))
  rw [pX7_isJudge]
  refine g_iload_n C 0 1 dX7_isJudge_0 rfl ?_
  refine g_i2l C 1 dX7_isJudge_1 ?_
  refine g_lconst C 2 0 dX7_isJudge_2 rfl ?_
  refine g_aload_n C 3 0 dX7_isJudge_3 rfl ?_
  refine gfM_X7_judgeMany C 4 iX7 (List.mem_cons_of_mem _ (List.mem_append_right _ wgL_15_17.1)) dX7_isJudge_4 ?_
  refine g_iconst C 7 1 dX7_isJudge_7 rfl ?_
  refine g_isub C 8 dX7_isJudge_8 ?_
  refine g_i2l C 9 dX7_isJudge_9 ?_
  refine g_callSi (st := []) (As := [.long (Int32.toInt64 p1), .long 0, .long (Int32.toInt64 ((u.1 1) - 1))]) C E0_ok E0_vm 10 3 (tX7_in F (Int32.toInt64 p1) 0 (Int32.toInt64 ((u.1 1) - 1)) u) rfl gX7_isJudge_X7_in rfl rfl rfl (by decide +kernel) ⟨Nat.le_of_ble_eq_true rfl, Nat.le_of_ble_eq_true rfl⟩ rfl (Nat.le_of_ble_eq_true rfl) dX7_isJudge_10 (fun r2 u1 => ?_)
  exact g_zret C 13 dX7_isJudge_13
def pX7_isSide (F : Nat) (p1 : Int32) (u : St) : Option (Int32 × St) :=
  bd (pX7_in F (Int32.toInt64 p1) 0 1 u) (fun (r2 : Int32) (u1 : St) => gd (z01 r2) (some (r2, u1)))
set_option maxRecDepth 100000 in
set_option maxHeartbeats 4000000 in
theorem tX7_isSide {l : Launch} {D : va_G} {cI cZ : ClassId} {ad : Nat → Nat} (F : Nat) (p1 : Int32) (u : St) : CtI l D [(cI, .int), (cZ, .boolean)] (wM ad cI cZ) E0 yX7_isSide wsX7_isSide ({ frames := 1, cells := 0, slots := 0, locals := 25 } : Room) [.int p1] u (pX7_isSide F p1 u) := by
  refine ctI_of (own := RX7) (cc := cX7_isSide) (n := 1) (ret := (some .boolean)) (by decide) rfl rfl (Nat.le_of_ble_eq_true rfl) (lv := [(0, .int p1)]) rfl (fun C => ?_)
  rw [pX7_isSide]
  refine g_iload_n C 0 0 dX7_isSide_0 rfl ?_
  refine g_i2l C 1 dX7_isSide_1 ?_
  refine g_lconst C 2 0 dX7_isSide_2 rfl ?_
  refine g_lconst C 3 1 dX7_isSide_3 rfl ?_
  refine g_callSi (st := []) (As := [.long (Int32.toInt64 p1), .long 0, .long 1]) C E0_ok E0_vm 4 3 (tX7_in F (Int32.toInt64 p1) 0 1 u) rfl gX7_isSide_X7_in rfl rfl rfl (by decide +kernel) ⟨Nat.le_of_ble_eq_true rfl, Nat.le_of_ble_eq_true rfl⟩ rfl (Nat.le_of_ble_eq_true rfl) dX7_isSide_4 (fun r2 u1 => ?_)
  exact g_zret C 7 dX7_isSide_7
def bX7_isBlown_26 (F : Nat) (p1 : Int32) (p2 : Int32) (p3 : Int32) (self6 : Int32 → Int32 → St → Option (Int32 × St)) (x3 : Int32) (x4 : Int32) (u5 : St) : Option (Int32 × St) :=
  gd (inb (p1 + 46) 408) (if (u5.2 0 (Int32.toNatClampNeg (p1 + 46))) ≤ x4 then gd (z01 x3) (some (x3, u5)) else jn (fun (a7 : Int32) (u8 : St) => jn (fun (a9 : Int32) (u10 : St) => (self6 a9 (x4 + 1) u10)) (fun (J106 : Int32 → St → Option (Int32 × St)) => jn (fun (u11 : St) => (J106 1 u11)) (fun (J101 : St → Option (Int32 × St)) => if x3 = 0 then jn (fun (u12 : St) => (J106 0 u12)) (fun (J105 : St → Option (Int32 × St)) => if a7 = 0 then (J105 u8) else gd (inb ((p1 + 51) + x4) 408) (if (u8.2 0 (Int32.toNatClampNeg ((p1 + 51) + x4))) ≤ p3 then (J105 u8) else (J101 u8))) else (J101 u8)))) (fun (J73 : Int32 → St → Option (Int32 × St)) => jn (fun (u13 : St) => (J73 0 u13)) (fun (J72 : St → Option (Int32 × St)) => if (((u5.1 15) >>> (x4 &&& 31)) &&& 1) = 0 then gd (inb ((p1 + 47) + x4) 408) (if (u5.2 0 (Int32.toNatClampNeg ((p1 + 47) + x4))) = p2 then (J73 1 u5) else (J72 u5)) else (J72 u5))))
def pX7_isBlown (F : Nat) (p1 : Int32) (p2 : Int32) (p3 : Int32) (u : St) : Option (Int32 × St) :=
  jn (fun (a1 : Int32) (u2 : St) => (lq2 (bX7_isBlown_26 F p1 p2 p3) F a1 0 u2)) (fun (J21 : Int32 → St → Option (Int32 × St)) => jn (fun (u14 : St) => (J21 0 u14)) (fun (J20 : St → Option (Int32 × St)) => if (u.1 17) ≤ p3 then (J20 u) else if (u.1 16) = p2 then (J21 1 u) else (J20 u)))
set_option maxRecDepth 100000 in
set_option maxHeartbeats 4000000 in
theorem tX7_isBlown {l : Launch} {D : va_G} {cI cZ : ClassId} {ad : Nat → Nat} (F : Nat) (p1 : Int32) (p2 : Int32) (p3 : Int32) (u : St) : CtI l D [(cI, .int), (cZ, .boolean)] (wM ad cI cZ) E0 yX7_isBlown wsX7_isBlown ({ frames := 0, cells := 0, slots := 0, locals := 0 } : Room) [.ref (ad 0), .int p1, .int p2, .int p3] u (pX7_isBlown F p1 p2 p3 u) := by
  refine ctI_of (own := RX7) (cc := cX7_isBlown) (n := 7) (ret := (some .boolean)) (by decide) rfl rfl (Nat.le_of_ble_eq_true rfl) (lv := [(0, .ref (ad 0)), (1, .int p1), (2, .int p2), (3, .int p3)]) rfl (fun C => ?_)
  have iX7 : ∀ w ∈ wsX70, w ∈ wsX7_isBlown := fun w h => List.mem_cons_of_mem _ (List.mem_append_right _ (inlX7 w h))
  rw [pX7_isBlown]
  refine g_aload_n C 0 0 dX7_isBlown_0 rfl ?_
  refine gfM_X7_moreStrength C 1 iX7 (List.mem_cons_of_mem _ (List.mem_append_right _ wgL_28_1.1)) dX7_isBlown_1 ?_
  refine g_iload_n C 4 3 dX7_isBlown_4 rfl ?_
  refine g_jn1 21 (fun (a1 : Int32) => [(0, .ref (ad 0)), (1, .int p1), (2, .int p2), (3, .int p3)]) (fun (a1 : Int32) => [.int a1]) (fun a1 u2 => ?_) (fun J21 hJ21 => ?_)
  · skip
    refine g_istore C 21 [(4, .int a1), (0, .ref (ad 0)), (1, .int p1), (2, .int p2), (3, .int p3)] dX7_isBlown_21 (by decide) rfl ?_
    refine g_iconst C 23 0 dX7_isBlown_23 rfl ?_
    refine g_istore C 24 [(5, .int 0), (4, .int a1), (0, .ref (ad 0)), (1, .int p1), (2, .int p2), (3, .int p3)] dX7_isBlown_24 (by decide) rfl ?_
    refine g_sub _ [2, 3, 4, 5, 1, 0] rfl ?_
    refine g_lq2 (fun (x3 : Int32) (x4 : Int32) => [(0, .ref (ad 0)), (1, .int p1), (2, .int p2), (3, .int p3), (4, .int x3), (5, .int x4)]) (fun self6 hself6 x3 x4 u5 => ?_) F a1 0 u2
    rw [bX7_isBlown_26]
    refine g_iload C 26 5 dX7_isBlown_26 rfl ?_
    refine g_aload_n C 28 0 dX7_isBlown_28 rfl ?_
    refine gfM_X7_state C 29 iX7 (List.mem_cons_of_mem _ (List.mem_append_right _ wgL_5_14.1)) dX7_isBlown_29 ?_
    refine g_iload_n C 32 1 dX7_isBlown_32 rfl ?_
    refine g_bipush C 33 46 dX7_isBlown_33 rfl ?_
    refine g_iadd C 35 dX7_isBlown_35 ?_
    refine g_iald C 36 (1 + 0) 0 (wM_arr 0 (by decide)) rfl dX7_isBlown_36 ?_
    refine g_icmp_ge C 37 114 dX7_isBlown_37 (by decide) ?_ ?_
    · skip
      refine g_iload C 114 4 dX7_isBlown_114 rfl ?_
      exact g_zret C 116 dX7_isBlown_116
    · skip
      refine g_aload_n C 40 0 dX7_isBlown_40 rfl ?_
      refine gfM_X7_away C 41 iX7 (List.mem_cons_of_mem _ (List.mem_append_right _ wgL_28_3.1)) dX7_isBlown_41 ?_
      refine g_iload C 44 5 dX7_isBlown_44 rfl ?_
      refine g_ishr C 46 dX7_isBlown_46 ?_
      refine g_iconst C 47 1 dX7_isBlown_47 rfl ?_
      refine g_iand C 48 dX7_isBlown_48 ?_
      refine g_jn1 73 (fun (a7 : Int32) => [(0, .ref (ad 0)), (1, .int p1), (2, .int p2), (3, .int p3), (4, .int x3), (5, .int x4)]) (fun (a7 : Int32) => [.int a7]) (fun a7 u8 => ?_) (fun J73 hJ73 => ?_)
      · skip
        refine g_istore C 73 [(6, .int a7), (0, .ref (ad 0)), (1, .int p1), (2, .int p2), (3, .int p3), (4, .int x3), (5, .int x4)] dX7_isBlown_73 (by decide) rfl ?_
        refine g_iload C 75 5 dX7_isBlown_75 rfl ?_
        refine g_jn1 106 (fun (a9 : Int32) => [(0, .ref (ad 0)), (1, .int p1), (2, .int p2), (3, .int p3), (5, .int x4)]) (fun (a9 : Int32) => [.int a9]) (fun a9 u10 => ?_) (fun J106 hJ106 => ?_)
        · skip
          refine g_istore C 106 [(4, .int a9), (0, .ref (ad 0)), (1, .int p1), (2, .int p2), (3, .int p3), (5, .int x4)] dX7_isBlown_106 (by decide) rfl ?_
          refine g_iinc C 108 5 [(5, .int (x4 + 1)), (4, .int a9), (0, .ref (ad 0)), (1, .int p1), (2, .int p2), (3, .int p3)] dX7_isBlown_108 rfl rfl (by decide) rfl ?_
          refine g_goto C 111 26 dX7_isBlown_111 (by decide) ?_
          exact g_sub _ [2, 3, 4, 5, 1, 0] rfl (hself6 a9 (x4 + 1) u10)
        · skip
          refine g_jn0 101 ([(0, .ref (ad 0)), (1, .int p1), (2, .int p2), (3, .int p3), (5, .int x4)]) ([]) (fun u11 => ?_) (fun J101 hJ101 => ?_)
          · skip
            refine g_iconst C 101 1 dX7_isBlown_101 rfl ?_
            refine g_goto C 102 106 dX7_isBlown_102 (by decide) ?_
            exact g_sub _ [0, 1, 2, 3, 4] rfl (hJ106 1 u11)
          · skip
            refine g_if_ne C 77 101 dX7_isBlown_77 (by decide) ?_ ?_
            · skip
              exact g_sub _ [1, 2, 3, 4, 6] rfl (hJ101 u8)
            · skip
              refine g_iload C 80 0 dX7_isBlown_80 rfl ?_
              refine g_jn0 105 ([(0, .ref (ad 0)), (1, .int p1), (2, .int p2), (3, .int p3), (5, .int x4)]) ([]) (fun u12 => ?_) (fun J105 hJ105 => ?_)
              · skip
                refine g_iconst C 105 0 dX7_isBlown_105 rfl ?_
                exact g_sub _ [0, 1, 2, 3, 4] rfl (hJ106 0 u12)
              · skip
                refine g_if_eq C 82 105 dX7_isBlown_82 (by decide) ?_ ?_
                · skip
                  exact g_sub _ [1, 2, 3, 4, 6] rfl (hJ105 u8)
                · skip
                  refine g_aload_n C 85 1 dX7_isBlown_85 rfl ?_
                  refine gfM_X7_state C 86 iX7 (List.mem_cons_of_mem _ (List.mem_append_right _ wgL_5_14.1)) dX7_isBlown_86 ?_
                  refine g_iload_n C 89 2 dX7_isBlown_89 rfl ?_
                  refine g_bipush C 90 51 dX7_isBlown_90 rfl ?_
                  refine g_iadd C 92 dX7_isBlown_92 ?_
                  refine g_iload C 93 6 dX7_isBlown_93 rfl ?_
                  refine g_iadd C 95 dX7_isBlown_95 ?_
                  refine g_iald C 96 (1 + 0) 0 (wM_arr 0 (by decide)) rfl dX7_isBlown_96 ?_
                  refine g_iload_n C 97 4 dX7_isBlown_97 rfl ?_
                  refine g_icmp_le C 98 105 dX7_isBlown_98 (by decide) ?_ ?_
                  · skip
                    exact g_sub _ [1, 2, 3, 4, 6] rfl (hJ105 u8)
                  · skip
                    exact g_sub _ [1, 2, 3, 4, 6] rfl (hJ101 u8)
      · skip
        refine g_jn0 72 ([(0, .ref (ad 0)), (1, .int p1), (2, .int p2), (3, .int p3), (4, .int x3), (5, .int x4)]) ([]) (fun u13 => ?_) (fun J72 hJ72 => ?_)
        · skip
          refine g_iconst C 72 0 dX7_isBlown_72 rfl ?_
          exact g_sub _ [0, 1, 2, 3, 4, 5] rfl (hJ73 0 u13)
        · skip
          refine g_if_ne C 49 72 dX7_isBlown_49 (by decide) ?_ ?_
          · skip
            exact g_sub _ [0, 1, 2, 3, 4, 5] rfl (hJ72 u5)
          · skip
            refine g_aload_n C 52 0 dX7_isBlown_52 rfl ?_
            refine gfM_X7_state C 53 iX7 (List.mem_cons_of_mem _ (List.mem_append_right _ wgL_5_14.1)) dX7_isBlown_53 ?_
            refine g_iload_n C 56 1 dX7_isBlown_56 rfl ?_
            refine g_bipush C 57 47 dX7_isBlown_57 rfl ?_
            refine g_iadd C 59 dX7_isBlown_59 ?_
            refine g_iload C 60 5 dX7_isBlown_60 rfl ?_
            refine g_iadd C 62 dX7_isBlown_62 ?_
            refine g_iald C 63 (1 + 0) 0 (wM_arr 0 (by decide)) rfl dX7_isBlown_63 ?_
            refine g_iload_n C 64 2 dX7_isBlown_64 rfl ?_
            refine g_icmp_ne C 65 72 dX7_isBlown_65 (by decide) ?_ ?_
            · skip
              exact g_sub _ [0, 1, 2, 3, 4, 5] rfl (hJ72 u5)
            · skip
              refine g_iconst C 68 1 dX7_isBlown_68 rfl ?_
              refine g_goto C 69 73 dX7_isBlown_69 (by decide) ?_
              exact g_sub _ [0, 1, 2, 3, 4, 5] rfl (hJ73 1 u5)
  · skip
    refine g_jn0 20 ([(0, .ref (ad 0)), (1, .int p1), (2, .int p2), (3, .int p3)]) ([]) (fun u14 => ?_) (fun J20 hJ20 => ?_)
    · skip
      refine g_iconst C 20 0 dX7_isBlown_20 rfl ?_
      exact g_sub _ [0, 1, 2, 3] rfl (hJ21 0 u14)
    · skip
      refine g_icmp_le C 5 20 dX7_isBlown_5 (by decide) ?_ ?_
      · skip
        exact g_sub _ [0, 1, 2, 3] rfl (hJ20 u)
      · skip
        refine g_aload_n C 8 0 dX7_isBlown_8 rfl ?_
        refine gfM_X7_moreMinute C 9 iX7 (List.mem_cons_of_mem _ (List.mem_append_right _ wgL_28_2.1)) dX7_isBlown_9 ?_
        refine g_iload_n C 12 2 dX7_isBlown_12 rfl ?_
        refine g_icmp_ne C 13 20 dX7_isBlown_13 (by decide) ?_ ?_
        · skip
          exact g_sub _ [0, 1, 2, 3] rfl (hJ20 u)
        · skip
          refine g_iconst C 16 1 dX7_isBlown_16 rfl ?_
          refine g_goto C 17 21 dX7_isBlown_17 (by decide) ?_
          exact g_sub _ [0, 1, 2, 3] rfl (hJ21 1 u)
def pX7_isOut (F : Nat) (p1 : Int32) (p2 : Int32) (p3 : Int32) (u : St) : Option (Int32 × St) :=
  gd (inb ((p1 + 8) + p2) 408) (if (u.2 0 (Int32.toNatClampNeg ((p1 + 8) + p2))) = 0 then some (1, u) else gd (inb ((p1 + 16) + p2) 408) (bd (pX7_isBlown F p1 p3 (u.2 0 (Int32.toNatClampNeg ((p1 + 16) + p2))) u) (fun (r2 : Int32) (u1 : St) => if r2 = 0 then some (0, u1) else some (1, u1))))
set_option maxRecDepth 100000 in
set_option maxHeartbeats 4000000 in
theorem tX7_isOut {l : Launch} {D : va_G} {cI cZ : ClassId} {ad : Nat → Nat} (F : Nat) (p1 : Int32) (p2 : Int32) (p3 : Int32) (u : St) : CtI l D [(cI, .int), (cZ, .boolean)] (wM ad cI cZ) E0 yX7_isOut wsX7_isOut ({ frames := 1, cells := 0, slots := 0, locals := 26 } : Room) [.ref (ad 0), .int p1, .int p2, .int p3] u (pX7_isOut F p1 p2 p3 u) := by
  refine ctI_of (own := RX7) (cc := cX7_isOut) (n := 4) (ret := (some .boolean)) (by decide) rfl rfl (Nat.le_of_ble_eq_true rfl) (lv := [(0, .ref (ad 0)), (1, .int p1), (2, .int p2), (3, .int p3)]) rfl (fun C => ?_)
  have iX7 : ∀ w ∈ wsX70, w ∈ wsX7_isOut := fun w h => List.mem_cons_of_mem _ (List.mem_append_right _ (inlX7 w h))
  rw [pX7_isOut]
  refine g_aload_n C 0 0 dX7_isOut_0 rfl ?_
  refine gfM_X7_state C 1 iX7 (List.mem_cons_of_mem _ (List.mem_append_right _ wgL_5_14.1)) dX7_isOut_1 ?_
  refine g_iload_n C 4 1 dX7_isOut_4 rfl ?_
  refine g_bipush C 5 8 dX7_isOut_5 rfl ?_
  refine g_iadd C 7 dX7_isOut_7 ?_
  refine g_iload_n C 8 2 dX7_isOut_8 rfl ?_
  refine g_iadd C 9 dX7_isOut_9 ?_
  refine g_iald C 10 (1 + 0) 0 (wM_arr 0 (by decide)) rfl dX7_isOut_10 ?_
  refine g_if_eq C 11 34 dX7_isOut_11 (by decide) ?_ ?_
  · skip
    refine g_iconst C 34 1 dX7_isOut_34 rfl ?_
    refine g_goto C 35 39 dX7_isOut_35 (by decide) ?_
    exact g_nret C 39 rfl dX7_isOut_39
  · skip
    refine g_aload_n C 14 0 dX7_isOut_14 rfl ?_
    refine g_iload_n C 15 1 dX7_isOut_15 rfl ?_
    refine g_iload_n C 16 3 dX7_isOut_16 rfl ?_
    refine g_aload_n C 17 0 dX7_isOut_17 rfl ?_
    refine gfM_X7_state C 18 iX7 (List.mem_cons_of_mem _ (List.mem_append_right _ wgL_5_14.1)) dX7_isOut_18 ?_
    refine g_iload_n C 21 1 dX7_isOut_21 rfl ?_
    refine g_bipush C 22 16 dX7_isOut_22 rfl ?_
    refine g_iadd C 24 dX7_isOut_24 ?_
    refine g_iload_n C 25 2 dX7_isOut_25 rfl ?_
    refine g_iadd C 26 dX7_isOut_26 ?_
    refine g_iald C 27 (1 + 0) 0 (wM_arr 0 (by decide)) rfl dX7_isOut_27 ?_
    refine g_callVi (st := []) (As := [.int p1, .int p3, .int (u.2 0 (Int32.toNatClampNeg ((p1 + 16) + p2)))]) C E0_ok E0_vm 28 0 3 (tX7_isBlown F p1 p3 (u.2 0 (Int32.toNatClampNeg ((p1 + 16) + p2))) u) rfl gX7_isOut_X7_isBlown rfl rfl rfl (by decide +kernel) ⟨Nat.le_of_ble_eq_true rfl, Nat.le_of_ble_eq_true rfl⟩ rfl rfl rfl (Nat.le_of_ble_eq_true rfl) dX7_isOut_28 (fun r2 u1 => ?_)
    refine g_if_eq C 31 38 dX7_isOut_31 (by decide) ?_ ?_
    · skip
      refine g_iconst C 38 0 dX7_isOut_38 rfl ?_
      exact g_nret C 39 rfl dX7_isOut_39
    · skip
      refine g_iconst C 34 1 dX7_isOut_34 rfl ?_
      refine g_goto C 35 39 dX7_isOut_35 (by decide) ?_
      exact g_nret C 39 rfl dX7_isOut_39
def pX7_goesTo (F : Nat) (p1 : Int32) (p2 : Int32) (p3 : Int32) (u : St) : Option (Int32 × St) :=
  vl (2 * p2) (fun v1 => gd (inb (((p1 + 8) + v1) + 1) 408) (gd (inb ((p1 + 8) + v1) 408) (jn (fun (a2 : Int32) (u3 : St) => gd (inb ((p1 + 40) + p3) 408) (if (u3.2 0 (Int32.toNatClampNeg ((p1 + 40) + p3))) = 0 then some (0, u3) else if (u3.2 0 (Int32.toNatClampNeg ((p1 + 40) + p3))) = 1 then some (a2, u3) else if (u3.2 0 (Int32.toNatClampNeg ((p1 + 40) + p3))) = 2 then some ((1 - a2), u3) else gd (inb (((p1 + 16) + v1) + 1) 408) (gd (inb ((p1 + 16) + v1) 408) (if (u3.2 0 (Int32.toNatClampNeg ((p1 + 16) + v1))) ≤ (u3.2 0 (Int32.toNatClampNeg (((p1 + 16) + v1) + 1))) then some (0, u3) else some (1, u3))))) (fun (J39 : Int32 → St → Option (Int32 × St)) => if (u.2 0 (Int32.toNatClampNeg (((p1 + 8) + v1) + 1))) ≤ (u.2 0 (Int32.toNatClampNeg ((p1 + 8) + v1))) then (J39 0 u) else (J39 1 u)))))
set_option maxRecDepth 100000 in
set_option maxHeartbeats 4000000 in
theorem tX7_goesTo {l : Launch} {D : va_G} {cI cZ : ClassId} {ad : Nat → Nat} (F : Nat) (p1 : Int32) (p2 : Int32) (p3 : Int32) (u : St) : CtI l D [(cI, .int), (cZ, .boolean)] (wM ad cI cZ) E0 yX7_goesTo wsX7_goesTo ({ frames := 0, cells := 0, slots := 0, locals := 0 } : Room) [.ref (ad 0), .int p1, .int p2, .int p3] u (pX7_goesTo F p1 p2 p3 u) := by
  refine ctI_of (own := RX7) (cc := cX7_goesTo) (n := 6) (ret := (some .int)) (by decide) rfl rfl (Nat.le_of_ble_eq_true rfl) (lv := [(0, .ref (ad 0)), (1, .int p1), (2, .int p2), (3, .int p3)]) rfl (fun C => ?_)
  have iX7 : ∀ w ∈ wsX70, w ∈ wsX7_goesTo := fun w h => List.mem_cons_of_mem _ (List.mem_append_right _ (inlX7 w h))
  rw [pX7_goesTo]
  refine g_iconst C 0 2 dX7_goesTo_0 rfl ?_
  refine g_iload_n C 1 2 dX7_goesTo_1 rfl ?_
  refine g_imul C 2 dX7_goesTo_2 ?_
  refine g_istoreV C 3 (fun v1 => [(4, .int v1), (0, .ref (ad 0)), (1, .int p1), (2, .int p2), (3, .int p3)]) dX7_goesTo_3 (by decide) (fun _ => rfl) (fun v1 => ?_)
  refine g_aload_n C 5 1 dX7_goesTo_5 rfl ?_
  refine gfM_X7_state C 6 iX7 (List.mem_cons_of_mem _ (List.mem_append_right _ wgL_5_14.1)) dX7_goesTo_6 ?_
  refine g_iload_n C 9 2 dX7_goesTo_9 rfl ?_
  refine g_bipush C 10 8 dX7_goesTo_10 rfl ?_
  refine g_iadd C 12 dX7_goesTo_12 ?_
  refine g_iload C 13 0 dX7_goesTo_13 rfl ?_
  refine g_iadd C 15 dX7_goesTo_15 ?_
  refine g_iconst C 16 1 dX7_goesTo_16 rfl ?_
  refine g_iadd C 17 dX7_goesTo_17 ?_
  refine g_iald C 18 (1 + 0) 0 (wM_arr 0 (by decide)) rfl dX7_goesTo_18 ?_
  refine g_aload_n C 19 1 dX7_goesTo_19 rfl ?_
  refine gfM_X7_state C 20 iX7 (List.mem_cons_of_mem _ (List.mem_append_right _ wgL_5_14.1)) dX7_goesTo_20 ?_
  refine g_iload_n C 23 2 dX7_goesTo_23 rfl ?_
  refine g_bipush C 24 8 dX7_goesTo_24 rfl ?_
  refine g_iadd C 26 dX7_goesTo_26 ?_
  refine g_iload C 27 0 dX7_goesTo_27 rfl ?_
  refine g_iadd C 29 dX7_goesTo_29 ?_
  refine g_iald C 30 (1 + 0) 0 (wM_arr 0 (by decide)) rfl dX7_goesTo_30 ?_
  refine g_jn1 39 (fun (a2 : Int32) => [(0, .ref (ad 0)), (1, .int p1), (3, .int p3), (4, .int v1)]) (fun (a2 : Int32) => [.int a2]) (fun a2 u3 => ?_) (fun J39 hJ39 => ?_)
  · skip
    refine g_istore C 39 [(5, .int a2), (0, .ref (ad 0)), (1, .int p1), (3, .int p3), (4, .int v1)] dX7_goesTo_39 (by decide) rfl ?_
    refine g_aload_n C 41 1 dX7_goesTo_41 rfl ?_
    refine gfM_X7_state C 42 iX7 (List.mem_cons_of_mem _ (List.mem_append_right _ wgL_5_14.1)) dX7_goesTo_42 ?_
    refine g_iload_n C 45 2 dX7_goesTo_45 rfl ?_
    refine g_bipush C 46 40 dX7_goesTo_46 rfl ?_
    refine g_iadd C 48 dX7_goesTo_48 ?_
    refine g_iload_n C 49 3 dX7_goesTo_49 rfl ?_
    refine g_iadd C 50 dX7_goesTo_50 ?_
    refine g_iald C 51 (1 + 0) 0 (wM_arr 0 (by decide)) rfl dX7_goesTo_51 ?_
    refine g_tsw C 52 80 0 dX7_goesTo_52 (by decide) rfl (by decide) ?_ (fun q0 => ?_)
    · skip
      refine g_iconst C 80 0 dX7_goesTo_80 rfl ?_
      exact g_iret C 81 dX7_goesTo_81
    refine g_tsw C 52 82 1 dX7_goesTo_52 (by decide) rfl (by decide) ?_ (fun q1 => ?_)
    · skip
      refine g_iload C 82 0 dX7_goesTo_82 rfl ?_
      exact g_iret C 84 dX7_goesTo_84
    refine g_tsw C 52 85 2 dX7_goesTo_52 (by decide) rfl (by decide) ?_ (fun q2 => ?_)
    · skip
      refine g_iconst C 85 1 dX7_goesTo_85 rfl ?_
      refine g_iload C 86 0 dX7_goesTo_86 rfl ?_
      refine g_isub C 88 dX7_goesTo_88 ?_
      exact g_iret C 89 dX7_goesTo_89
    refine g_tswD C 52 90 dX7_goesTo_52 (by have r0 := lv_neT (a := 0) q0 rfl; have r1 := lv_neT (a := 1) q1 rfl; have r2 := lv_neT (a := 2) q2 rfl; omega) (by decide) ?_
    refine g_aload_n C 90 1 dX7_goesTo_90 rfl ?_
    refine gfM_X7_state C 91 iX7 (List.mem_cons_of_mem _ (List.mem_append_right _ wgL_5_14.1)) dX7_goesTo_91 ?_
    refine g_iload_n C 94 2 dX7_goesTo_94 rfl ?_
    refine g_bipush C 95 16 dX7_goesTo_95 rfl ?_
    refine g_iadd C 97 dX7_goesTo_97 ?_
    refine g_iload C 98 4 dX7_goesTo_98 rfl ?_
    refine g_iadd C 100 dX7_goesTo_100 ?_
    refine g_iconst C 101 1 dX7_goesTo_101 rfl ?_
    refine g_iadd C 102 dX7_goesTo_102 ?_
    refine g_iald C 103 (1 + 0) 0 (wM_arr 0 (by decide)) rfl dX7_goesTo_103 ?_
    refine g_aload_n C 104 1 dX7_goesTo_104 rfl ?_
    refine gfM_X7_state C 105 iX7 (List.mem_cons_of_mem _ (List.mem_append_right _ wgL_5_14.1)) dX7_goesTo_105 ?_
    refine g_iload_n C 108 2 dX7_goesTo_108 rfl ?_
    refine g_bipush C 109 16 dX7_goesTo_109 rfl ?_
    refine g_iadd C 111 dX7_goesTo_111 ?_
    refine g_iload C 112 4 dX7_goesTo_112 rfl ?_
    refine g_iadd C 114 dX7_goesTo_114 ?_
    refine g_iald C 115 (1 + 0) 0 (wM_arr 0 (by decide)) rfl dX7_goesTo_115 ?_
    refine g_icmp_ge C 116 123 dX7_goesTo_116 (by decide) ?_ ?_
    · skip
      refine g_iconst C 123 0 dX7_goesTo_123 rfl ?_
      exact g_iret C 124 dX7_goesTo_124
    · skip
      refine g_iconst C 119 1 dX7_goesTo_119 rfl ?_
      refine g_goto C 120 124 dX7_goesTo_120 (by decide) ?_
      exact g_iret C 124 dX7_goesTo_124
  · skip
    refine g_icmp_le C 31 38 dX7_goesTo_31 (by decide) ?_ ?_
    · skip
      refine g_iconst C 38 0 dX7_goesTo_38 rfl ?_
      exact g_sub _ [1, 2, 4, 0] rfl (hJ39 0 u)
    · skip
      refine g_iconst C 34 1 dX7_goesTo_34 rfl ?_
      refine g_goto C 35 39 dX7_goesTo_35 (by decide) ?_
      exact g_sub _ [1, 2, 4, 0] rfl (hJ39 1 u)
def pX7_burnsOn (F : Nat) (p1 : Int32) (p2 : Int32) (u : St) : Option (Unit × St) :=
  gd (inb ((p1 + 8) + p2) 408) (gd (inb (p1 + p2) 408) (gd (inb (u.2 0 (Int32.toNatClampNeg (p1 + p2))) 4) (vl ((u.2 0 (Int32.toNatClampNeg ((p1 + 8) + p2))) - (u.2 1 (Int32.toNatClampNeg (u.2 0 (Int32.toNatClampNeg (p1 + p2)))))) (fun v1 => jn (fun (a2 : Int32) (u3 : St) => gd (inb ((p1 + 8) + p2) 408) (vl (sta u3 0 ((p1 + 8) + p2) a2) (fun (u4 : St) => some ((), u4)))) (fun (J45 : Int32 → St → Option (Unit × St)) => if 0 ≤ v1 then (J45 v1 u) else (J45 0 u))))))
set_option maxRecDepth 100000 in
set_option maxHeartbeats 4000000 in
theorem tX7_burnsOn {l : Launch} {D : va_G} {cI cZ : ClassId} {ad : Nat → Nat} (F : Nat) (p1 : Int32) (p2 : Int32) (u : St) : CtV l D [(cI, .int), (cZ, .boolean)] (wM ad cI cZ) E0 yX7_burnsOn wsX7_burnsOn ({ frames := 0, cells := 0, slots := 0, locals := 0 } : Room) [.ref (ad 0), .int p1, .int p2] u (pX7_burnsOn F p1 p2 u) := by
  refine ctV_of (own := RX7) (cc := cX7_burnsOn) (n := 4) (ret := none) (by decide) rfl rfl (Nat.le_of_ble_eq_true rfl) (lv := [(0, .ref (ad 0)), (1, .int p1), (2, .int p2)]) rfl (fun C => ?_)
  have iX7 : ∀ w ∈ wsX70, w ∈ wsX7_burnsOn := fun w h => List.mem_cons_of_mem _ (List.mem_append_right _ (inlX7 w h))
  rw [pX7_burnsOn]
  refine g_aload_n C 0 0 dX7_burnsOn_0 rfl ?_
  refine gfM_X7_state C 1 iX7 (List.mem_cons_of_mem _ (List.mem_append_right _ wgL_5_14.1)) dX7_burnsOn_1 ?_
  refine g_iload_n C 4 1 dX7_burnsOn_4 rfl ?_
  refine g_bipush C 5 8 dX7_burnsOn_5 rfl ?_
  refine g_iadd C 7 dX7_burnsOn_7 ?_
  refine g_iload_n C 8 2 dX7_burnsOn_8 rfl ?_
  refine g_iadd C 9 dX7_burnsOn_9 ?_
  refine g_iald C 10 (1 + 0) 0 (wM_arr 0 (by decide)) rfl dX7_burnsOn_10 ?_
  refine g_aload_n C 11 0 dX7_burnsOn_11 rfl ?_
  refine gfM_X7_burns C 12 iX7 (List.mem_cons_of_mem _ (List.mem_append_right _ wgL_5_15.1)) dX7_burnsOn_12 ?_
  refine g_aload_n C 15 0 dX7_burnsOn_15 rfl ?_
  refine gfM_X7_state C 16 iX7 (List.mem_cons_of_mem _ (List.mem_append_right _ wgL_5_14.1)) dX7_burnsOn_16 ?_
  refine g_iload_n C 19 1 dX7_burnsOn_19 rfl ?_
  refine g_iload_n C 20 2 dX7_burnsOn_20 rfl ?_
  refine g_iadd C 21 dX7_burnsOn_21 ?_
  refine g_iald C 22 (1 + 0) 0 (wM_arr 0 (by decide)) rfl dX7_burnsOn_22 ?_
  refine g_iald C 23 (1 + 1) 0 (wM_arr 1 (by decide)) rfl dX7_burnsOn_23 ?_
  refine g_isub C 24 dX7_burnsOn_24 ?_
  refine g_istore_nV C 25 (fun v1 => [(3, .int v1), (0, .ref (ad 0)), (1, .int p1), (2, .int p2)]) dX7_burnsOn_25 (by decide) (fun _ => rfl) (fun v1 => ?_)
  refine g_aload_n C 26 1 dX7_burnsOn_26 rfl ?_
  refine gfM_X7_state C 27 iX7 (List.mem_cons_of_mem _ (List.mem_append_right _ wgL_5_14.1)) dX7_burnsOn_27 ?_
  refine g_iload_n C 30 2 dX7_burnsOn_30 rfl ?_
  refine g_bipush C 31 8 dX7_burnsOn_31 rfl ?_
  refine g_iadd C 33 dX7_burnsOn_33 ?_
  refine g_iload_n C 34 3 dX7_burnsOn_34 rfl ?_
  refine g_iadd C 35 dX7_burnsOn_35 ?_
  refine g_iload_n C 36 0 dX7_burnsOn_36 rfl ?_
  refine g_jn1 45 (fun (a2 : Int32) => []) (fun (a2 : Int32) => [.int a2, .int ((p1 + 8) + p2), .ref (ad (1 + 0))]) (fun a2 u3 => ?_) (fun J45 hJ45 => ?_)
  · skip
    refine g_iast C 45 (1 + 0) 0 0 (wM_arr 0 (by decide)) (wM_aset 0 (by decide)) rfl dX7_burnsOn_45 (fun u4 => ?_)
    exact g_vret C 46 dX7_burnsOn_46
  · skip
    refine g_if_ge C 37 44 dX7_burnsOn_37 (by decide) ?_ ?_
    · skip
      refine g_iload_n C 44 0 dX7_burnsOn_44 rfl ?_
      exact g_sub _ [] rfl (hJ45 v1 u)
    · skip
      refine g_iconst C 40 0 dX7_burnsOn_40 rfl ?_
      refine g_goto C 41 45 dX7_burnsOn_41 (by decide) ?_
      exact g_sub _ [] rfl (hJ45 0 u)
def jX7_hearsOn_101 (F : Nat)  (a1 : Int32) (a2 : Int32) (a3 : Int32) (u4 : St) : Option (Int32 × St) :=
  vl (stf u4 18 a1) (fun (u5 : St) => jn (fun (u6 : St) => if a2 = 0 then some (1, u6) else some (2, u6)) (fun (J121 : St → Option (Int32 × St)) => if a2 = 0 then (J121 u5) else if a3 = 0 then (J121 u5) else some (3, u5)))
def bX7_hearsOn_3 (F : Nat) (p1 : Int32) (p2 : Int32) (p3 : Int32) (J101 : Int32 → Int32 → Int32 → St → Option (Int32 × St)) (self9 : Int32 → St → Option (Int32 × St)) (x7 : Int32) (u8 : St) : Option (Int32 × St) :=
  if 9 < x7 then some (0, u8) else bd (pX7_isOut F p1 (2 * p2) x7 u8) (fun (r11 : Int32) (u10 : St) => bd (pX7_isOut F p1 ((2 * p2) + 1) x7 u10) (fun (r13 : Int32) (u12 : St) => jn (fun (a14 : Int32) (a15 : Int32) (u16 : St) => if a14 = 0 then if a15 = 0 then bd (pX7_burnsOn F p1 (2 * p2) u16) (fun (_ : Unit) (u17 : St) => bd (pX7_burnsOn F p1 ((2 * p2) + 1) u17) (fun (_ : Unit) (u18 : St) => (self9 (x7 + 1) u18))) else (J101 x7 a14 a15 u16) else (J101 x7 a14 a15 u16)) (fun (J91 : Int32 → Int32 → St → Option (Int32 × St)) => if r11 = 0 then if r13 = 0 then gd (inb ((p1 + 43) + p3) 408) (if x7 = (u12.2 0 (Int32.toNatClampNeg ((p1 + 43) + p3))) then bd (pX7_goesTo F p1 p2 p3 u12) (fun (r20 : Int32) (u19 : St) => jn (fun (a21 : Int32) (u22 : St) => jn (fun (a23 : Int32) (u24 : St) => (J91 a21 a23 u24)) (fun (J89 : Int32 → St → Option (Int32 × St)) => if a21 = 0 then (J89 1 u22) else (J89 0 u22))) (fun (J77 : Int32 → St → Option (Int32 × St)) => if r20 = 0 then (J77 1 u19) else (J77 0 u19))) else (J91 r11 r13 u12)) else (J91 r11 r13 u12) else (J91 r11 r13 u12))))
def pX7_hearsOn (F : Nat) (p1 : Int32) (p2 : Int32) (p3 : Int32) (u : St) : Option (Int32 × St) :=
  jn (jX7_hearsOn_101 F) (fun (J101 : Int32 → Int32 → Int32 → St → Option (Int32 × St)) => (lq1 (bX7_hearsOn_3 F p1 p2 p3 J101) F 0 u))
set_option maxRecDepth 100000 in
set_option maxHeartbeats 4000000 in
theorem tX7_hearsOn {l : Launch} {D : va_G} {cI cZ : ClassId} {ad : Nat → Nat} (F : Nat) (p1 : Int32) (p2 : Int32) (p3 : Int32) (u : St) : CtI l D [(cI, .int), (cZ, .boolean)] (wM ad cI cZ) E0 yX7_hearsOn wsX7_hearsOn ({ frames := 2, cells := 0, slots := 0, locals := 49 } : Room) [.ref (ad 0), .int p1, .int p2, .int p3] u (pX7_hearsOn F p1 p2 p3 u) := by
  refine ctI_of (own := RX7) (cc := cX7_hearsOn) (n := 7) (ret := (some .int)) (by decide) rfl rfl (Nat.le_of_ble_eq_true rfl) (lv := [(0, .ref (ad 0)), (1, .int p1), (2, .int p2), (3, .int p3)]) rfl (fun C => ?_)
  have iX7 : ∀ w ∈ wsX70, w ∈ wsX7_hearsOn := fun w h => List.mem_cons_of_mem _ (List.mem_append_right _ (inlX7 w h))
  rw [pX7_hearsOn]
  refine g_iconst C 0 0 dX7_hearsOn_0 rfl ?_
  refine g_istore C 1 [(4, .int 0), (0, .ref (ad 0)), (1, .int p1), (2, .int p2), (3, .int p3)] dX7_hearsOn_1 (by decide) rfl ?_
  refine g_jn3 101 (fun (a1 : Int32) (a2 : Int32) (a3 : Int32) => [(0, .ref (ad 0)), (4, .int a1), (5, .int a2), (6, .int a3)]) (fun (a1 : Int32) (a2 : Int32) (a3 : Int32) => []) (fun a1 a2 a3 u4 => ?_) (fun J101 hJ101 => ?_)
  · skip
    rw [jX7_hearsOn_101]
    refine g_aload_n C 101 0 dX7_hearsOn_101 rfl ?_
    refine g_iload C 102 1 dX7_hearsOn_102 rfl ?_
    refine pfM_X7_endedAt C 104 iX7 (List.mem_cons_of_mem _ (List.mem_append_right _ wgL_27_12.1)) dX7_hearsOn_104 (fun u5 => ?_)
    refine g_iload C 107 2 dX7_hearsOn_107 rfl ?_
    refine g_jn0 121 ([(5, .int a2)]) ([]) (fun u6 => ?_) (fun J121 hJ121 => ?_)
    · skip
      refine g_iload C 121 0 dX7_hearsOn_121 rfl ?_
      refine g_if_eq C 123 130 dX7_hearsOn_123 (by decide) ?_ ?_
      · skip
        refine g_iconst C 130 1 dX7_hearsOn_130 rfl ?_
        exact g_iret C 131 dX7_hearsOn_131
      · skip
        refine g_iconst C 126 2 dX7_hearsOn_126 rfl ?_
        refine g_goto C 127 131 dX7_hearsOn_127 (by decide) ?_
        exact g_iret C 131 dX7_hearsOn_131
    · skip
      refine g_if_eq C 109 121 dX7_hearsOn_109 (by decide) ?_ ?_
      · skip
        exact g_sub _ [2] rfl (hJ121 u5)
      · skip
        refine g_iload C 112 3 dX7_hearsOn_112 rfl ?_
        refine g_if_eq C 114 121 dX7_hearsOn_114 (by decide) ?_ ?_
        · skip
          exact g_sub _ [2] rfl (hJ121 u5)
        · skip
          refine g_iconst C 117 3 dX7_hearsOn_117 rfl ?_
          refine g_goto C 118 131 dX7_hearsOn_118 (by decide) ?_
          exact g_iret C 131 dX7_hearsOn_131
  · skip
    refine g_sub _ [1, 2, 3, 4, 0] rfl ?_
    refine g_lq1 (fun (x7 : Int32) => [(0, .ref (ad 0)), (1, .int p1), (2, .int p2), (3, .int p3), (4, .int x7)]) (fun self9 hself9 x7 u8 => ?_) F 0 u
    rw [bX7_hearsOn_3]
    refine g_iload C 3 4 dX7_hearsOn_3 rfl ?_
    refine g_bipush C 5 9 dX7_hearsOn_5 rfl ?_
    refine g_icmp_gt C 7 156 dX7_hearsOn_7 (by decide) ?_ ?_
    · skip
      refine g_iconst C 156 0 dX7_hearsOn_156 rfl ?_
      exact g_iret C 157 dX7_hearsOn_157
    · skip
      refine g_aload_n C 10 0 dX7_hearsOn_10 rfl ?_
      refine g_iload_n C 11 1 dX7_hearsOn_11 rfl ?_
      refine g_iconst C 12 2 dX7_hearsOn_12 rfl ?_
      refine g_iload_n C 13 2 dX7_hearsOn_13 rfl ?_
      refine g_imul C 14 dX7_hearsOn_14 ?_
      refine g_iload C 15 4 dX7_hearsOn_15 rfl ?_
      refine g_callVi (st := []) (As := [.int p1, .int (2 * p2), .int x7]) C E0_ok E0_vm 17 0 3 (tX7_isOut F p1 (2 * p2) x7 u8) rfl gX7_hearsOn_X7_isOut rfl rfl rfl (by decide +kernel) ⟨Nat.le_of_ble_eq_true rfl, Nat.le_of_ble_eq_true rfl⟩ rfl rfl rfl (Nat.le_of_ble_eq_true rfl) dX7_hearsOn_17 (fun r11 u10 => ?_)
      refine g_istore C 20 [(5, .int r11), (0, .ref (ad 0)), (1, .int p1), (2, .int p2), (3, .int p3), (4, .int x7)] dX7_hearsOn_20 (by decide) rfl ?_
      refine g_aload_n C 22 1 dX7_hearsOn_22 rfl ?_
      refine g_iload_n C 23 2 dX7_hearsOn_23 rfl ?_
      refine g_iconst C 24 2 dX7_hearsOn_24 rfl ?_
      refine g_iload_n C 25 3 dX7_hearsOn_25 rfl ?_
      refine g_imul C 26 dX7_hearsOn_26 ?_
      refine g_iconst C 27 1 dX7_hearsOn_27 rfl ?_
      refine g_iadd C 28 dX7_hearsOn_28 ?_
      refine g_iload C 29 5 dX7_hearsOn_29 rfl ?_
      refine g_callVi (st := []) (As := [.int p1, .int ((2 * p2) + 1), .int x7]) C E0_ok E0_vm 31 0 3 (tX7_isOut F p1 ((2 * p2) + 1) x7 u10) rfl gX7_hearsOn_X7_isOut rfl rfl rfl (by decide +kernel) ⟨Nat.le_of_ble_eq_true rfl, Nat.le_of_ble_eq_true rfl⟩ rfl rfl rfl (Nat.le_of_ble_eq_true rfl) dX7_hearsOn_31 (fun r13 u12 => ?_)
      refine g_istore C 34 [(6, .int r13), (5, .int r11), (0, .ref (ad 0)), (1, .int p1), (2, .int p2), (3, .int p3), (4, .int x7)] dX7_hearsOn_34 (by decide) rfl ?_
      refine g_iload C 36 1 dX7_hearsOn_36 rfl ?_
      refine g_jn2 91 (fun (a14 : Int32) (a15 : Int32) => [(0, .ref (ad 0)), (1, .int p1), (2, .int p2), (3, .int p3), (4, .int x7), (5, .int a14), (6, .int a15)]) (fun (a14 : Int32) (a15 : Int32) => []) (fun a14 a15 u16 => ?_) (fun J91 hJ91 => ?_)
      · skip
        refine g_iload C 91 5 dX7_hearsOn_91 rfl ?_
        refine g_if_ne C 93 101 dX7_hearsOn_93 (by decide) ?_ ?_
        · skip
          exact g_sub _ [0, 4, 5, 6] rfl (hJ101 x7 a14 a15 u16)
        · skip
          refine g_iload C 96 6 dX7_hearsOn_96 rfl ?_
          refine g_if_eq C 98 132 dX7_hearsOn_98 (by decide) ?_ ?_
          · skip
            refine g_aload_n C 132 0 dX7_hearsOn_132 rfl ?_
            refine g_iload_n C 133 1 dX7_hearsOn_133 rfl ?_
            refine g_iconst C 134 2 dX7_hearsOn_134 rfl ?_
            refine g_iload_n C 135 2 dX7_hearsOn_135 rfl ?_
            refine g_imul C 136 dX7_hearsOn_136 ?_
            refine g_callVv (st := []) (As := [.int p1, .int (2 * p2)]) C E0_ok E0_vm 137 0 2 (tX7_burnsOn F p1 (2 * p2) u16) rfl gX7_hearsOn_X7_burnsOn rfl rfl rfl (by decide +kernel) ⟨Nat.le_of_ble_eq_true rfl, Nat.le_of_ble_eq_true rfl⟩ rfl rfl rfl (Nat.le_of_ble_eq_true rfl) dX7_hearsOn_137 (fun u17 => ?_)
            refine g_aload_n C 140 0 dX7_hearsOn_140 rfl ?_
            refine g_iload_n C 141 1 dX7_hearsOn_141 rfl ?_
            refine g_iconst C 142 2 dX7_hearsOn_142 rfl ?_
            refine g_iload_n C 143 2 dX7_hearsOn_143 rfl ?_
            refine g_imul C 144 dX7_hearsOn_144 ?_
            refine g_iconst C 145 1 dX7_hearsOn_145 rfl ?_
            refine g_iadd C 146 dX7_hearsOn_146 ?_
            refine g_callVv (st := []) (As := [.int p1, .int ((2 * p2) + 1)]) C E0_ok E0_vm 147 0 2 (tX7_burnsOn F p1 ((2 * p2) + 1) u17) rfl gX7_hearsOn_X7_burnsOn rfl rfl rfl (by decide +kernel) ⟨Nat.le_of_ble_eq_true rfl, Nat.le_of_ble_eq_true rfl⟩ rfl rfl rfl (Nat.le_of_ble_eq_true rfl) dX7_hearsOn_147 (fun u18 => ?_)
            refine g_iinc C 150 4 [(4, .int (x7 + 1)), (0, .ref (ad 0)), (1, .int p1), (2, .int p2), (3, .int p3), (5, .int a14), (6, .int a15)] dX7_hearsOn_150 rfl rfl (by decide) rfl ?_
            refine g_goto C 153 3 dX7_hearsOn_153 (by decide) ?_
            exact g_sub _ [1, 2, 3, 4, 0] rfl (hself9 (x7 + 1) u18)
          · skip
            exact g_sub _ [0, 4, 5, 6] rfl (hJ101 x7 a14 a15 u16)
      · skip
        refine g_if_ne C 38 91 dX7_hearsOn_38 (by decide) ?_ ?_
        · skip
          exact g_sub _ [2, 3, 4, 5, 6, 1, 0] rfl (hJ91 r11 r13 u12)
        · skip
          refine g_iload C 41 0 dX7_hearsOn_41 rfl ?_
          refine g_if_ne C 43 91 dX7_hearsOn_43 (by decide) ?_ ?_
          · skip
            exact g_sub _ [2, 3, 4, 5, 6, 1, 0] rfl (hJ91 r11 r13 u12)
          · skip
            refine g_iload C 46 6 dX7_hearsOn_46 rfl ?_
            refine g_aload_n C 48 2 dX7_hearsOn_48 rfl ?_
            refine gfM_X7_state C 49 iX7 (List.mem_cons_of_mem _ (List.mem_append_right _ wgL_5_14.1)) dX7_hearsOn_49 ?_
            refine g_iload_n C 52 3 dX7_hearsOn_52 rfl ?_
            refine g_bipush C 53 43 dX7_hearsOn_53 rfl ?_
            refine g_iadd C 55 dX7_hearsOn_55 ?_
            refine g_iload_n C 56 5 dX7_hearsOn_56 rfl ?_
            refine g_iadd C 57 dX7_hearsOn_57 ?_
            refine g_iald C 58 (1 + 0) 0 (wM_arr 0 (by decide)) rfl dX7_hearsOn_58 ?_
            refine g_icmp_ne C 59 91 dX7_hearsOn_59 (by decide) ?_ ?_
            · skip
              exact g_sub _ [2, 3, 4, 5, 6, 1, 0] rfl (hJ91 r11 r13 u12)
            · skip
              refine g_aload_n C 62 2 dX7_hearsOn_62 rfl ?_
              refine g_iload_n C 63 3 dX7_hearsOn_63 rfl ?_
              refine g_iload_n C 64 4 dX7_hearsOn_64 rfl ?_
              refine g_iload_n C 65 5 dX7_hearsOn_65 rfl ?_
              refine g_callVi (st := []) (As := [.int p1, .int p2, .int p3]) C E0_ok E0_vm 66 0 3 (tX7_goesTo F p1 p2 p3 u12) rfl gX7_hearsOn_X7_goesTo rfl rfl rfl (by decide +kernel) ⟨Nat.le_of_ble_eq_true rfl, Nat.le_of_ble_eq_true rfl⟩ rfl rfl rfl (Nat.le_of_ble_eq_true rfl) dX7_hearsOn_66 (fun r20 u19 => ?_)
              refine g_jn1 77 (fun (a21 : Int32) => [(0, .ref (ad 0)), (1, .int p1), (2, .int p2), (3, .int p3), (4, .int x7)]) (fun (a21 : Int32) => [.int a21]) (fun a21 u22 => ?_) (fun J77 hJ77 => ?_)
              · skip
                refine g_istore C 77 [(5, .int a21), (0, .ref (ad 0)), (1, .int p1), (2, .int p2), (3, .int p3), (4, .int x7)] dX7_hearsOn_77 (by decide) rfl ?_
                refine g_iload C 79 0 dX7_hearsOn_79 rfl ?_
                refine g_jn1 89 (fun (a23 : Int32) => [(0, .ref (ad 0)), (1, .int p1), (2, .int p2), (3, .int p3), (4, .int x7), (5, .int a21)]) (fun (a23 : Int32) => [.int a23]) (fun a23 u24 => ?_) (fun J89 hJ89 => ?_)
                · skip
                  refine g_istore C 89 [(6, .int a23), (0, .ref (ad 0)), (1, .int p1), (2, .int p2), (3, .int p3), (4, .int x7), (5, .int a21)] dX7_hearsOn_89 (by decide) rfl ?_
                  exact g_sub _ [1, 2, 3, 4, 5, 6, 0] rfl (hJ91 a21 a23 u24)
                · skip
                  refine g_if_ne C 81 88 dX7_hearsOn_81 (by decide) ?_ ?_
                  · skip
                    refine g_iconst C 88 0 dX7_hearsOn_88 rfl ?_
                    exact g_sub _ [1, 2, 3, 4, 5, 0] rfl (hJ89 0 u22)
                  · skip
                    refine g_iconst C 84 1 dX7_hearsOn_84 rfl ?_
                    refine g_goto C 85 89 dX7_hearsOn_85 (by decide) ?_
                    exact g_sub _ [1, 2, 3, 4, 5, 0] rfl (hJ89 1 u22)
              · skip
                refine g_if_ne C 69 76 dX7_hearsOn_69 (by decide) ?_ ?_
                · skip
                  refine g_iconst C 76 0 dX7_hearsOn_76 rfl ?_
                  exact g_sub _ [2, 3, 4, 5, 6] rfl (hJ77 0 u19)
                · skip
                  refine g_iconst C 72 1 dX7_hearsOn_72 rfl ?_
                  refine g_goto C 73 77 dX7_hearsOn_73 (by decide) ?_
                  exact g_sub _ [2, 3, 4, 5, 6] rfl (hJ77 1 u19)
def bX7_wonOn_5 (F : Nat) (p1 : Int32) (p2 : Int32) (self4 : Int32 → Int32 → St → Option (Int32 × St)) (x1 : Int32) (x2 : Int32) (u3 : St) : Option (Int32 × St) :=
  if (u3.1 0) ≤ x2 then some (x1, u3) else gd (inb ((p1 + 24) + x2) 408) (jn (fun (a5 : Int32) (u6 : St) => vl (x1 ||| a5) (fun v7 => (self4 v7 (x2 + 1) u6))) (fun (J39 : Int32 → St → Option (Int32 × St)) => if (u3.2 0 (Int32.toNatClampNeg ((p1 + 24) + x2))) = p2 then (J39 (1 <<< (x2 &&& 31)) u3) else (J39 0 u3)))
def pX7_wonOn (F : Nat) (p1 : Int32) (p2 : Int32) (u : St) : Option (Int32 × St) :=
  (lq2 (bX7_wonOn_5 F p1 p2) F 0 0 u)
set_option maxRecDepth 100000 in
set_option maxHeartbeats 4000000 in
theorem tX7_wonOn {l : Launch} {D : va_G} {cI cZ : ClassId} {ad : Nat → Nat} (F : Nat) (p1 : Int32) (p2 : Int32) (u : St) : CtI l D [(cI, .int), (cZ, .boolean)] (wM ad cI cZ) E0 yX7_wonOn wsX7_wonOn ({ frames := 0, cells := 0, slots := 0, locals := 0 } : Room) [.ref (ad 0), .int p1, .int p2] u (pX7_wonOn F p1 p2 u) := by
  refine ctI_of (own := RX7) (cc := cX7_wonOn) (n := 5) (ret := (some .int)) (by decide) rfl rfl (Nat.le_of_ble_eq_true rfl) (lv := [(0, .ref (ad 0)), (1, .int p1), (2, .int p2)]) rfl (fun C => ?_)
  have iX7 : ∀ w ∈ wsX70, w ∈ wsX7_wonOn := fun w h => List.mem_cons_of_mem _ (List.mem_append_right _ (inlX7 w h))
  rw [pX7_wonOn]
  refine g_iconst C 0 0 dX7_wonOn_0 rfl ?_
  refine g_istore_n C 1 [(3, .int 0), (0, .ref (ad 0)), (1, .int p1), (2, .int p2)] dX7_wonOn_1 (by decide) rfl ?_
  refine g_iconst C 2 0 dX7_wonOn_2 rfl ?_
  refine g_istore C 3 [(4, .int 0), (3, .int 0), (0, .ref (ad 0)), (1, .int p1), (2, .int p2)] dX7_wonOn_3 (by decide) rfl ?_
  refine g_sub _ [2, 3, 4, 1, 0] rfl ?_
  refine g_lq2 (fun (x1 : Int32) (x2 : Int32) => [(0, .ref (ad 0)), (1, .int p1), (2, .int p2), (3, .int x1), (4, .int x2)]) (fun self4 hself4 x1 x2 u3 => ?_) F 0 0 u
  rw [bX7_wonOn_5]
  refine g_iload C 5 4 dX7_wonOn_5 rfl ?_
  refine g_aload_n C 7 0 dX7_wonOn_7 rfl ?_
  refine gfM_X7_caseMany C 8 iX7 (List.mem_cons_of_mem _ (List.mem_append_right _ wgL_15_16.1)) dX7_wonOn_8 ?_
  refine g_icmp_ge C 11 47 dX7_wonOn_11 (by decide) ?_ ?_
  · skip
    refine g_iload_n C 47 3 dX7_wonOn_47 rfl ?_
    exact g_iret C 48 dX7_wonOn_48
  · skip
    refine g_iload_n C 14 3 dX7_wonOn_14 rfl ?_
    refine g_aload_n C 15 0 dX7_wonOn_15 rfl ?_
    refine gfM_X7_state C 16 iX7 (List.mem_cons_of_mem _ (List.mem_append_right _ wgL_5_14.1)) dX7_wonOn_16 ?_
    refine g_iload_n C 19 1 dX7_wonOn_19 rfl ?_
    refine g_bipush C 20 24 dX7_wonOn_20 rfl ?_
    refine g_iadd C 22 dX7_wonOn_22 ?_
    refine g_iload C 23 4 dX7_wonOn_23 rfl ?_
    refine g_iadd C 25 dX7_wonOn_25 ?_
    refine g_iald C 26 (1 + 0) 0 (wM_arr 0 (by decide)) rfl dX7_wonOn_26 ?_
    refine g_iload_n C 27 2 dX7_wonOn_27 rfl ?_
    refine g_jn1 39 (fun (a5 : Int32) => [(0, .ref (ad 0)), (1, .int p1), (2, .int p2), (4, .int x2)]) (fun (a5 : Int32) => [.int a5, .int x1]) (fun a5 u6 => ?_) (fun J39 hJ39 => ?_)
    · skip
      refine g_ior C 39 dX7_wonOn_39 ?_
      refine g_istore_nV C 40 (fun v7 => [(3, .int v7), (0, .ref (ad 0)), (1, .int p1), (2, .int p2), (4, .int x2)]) dX7_wonOn_40 (by decide) (fun _ => rfl) (fun v7 => ?_)
      refine g_iinc C 41 4 [(4, .int (x2 + 1)), (3, .int v7), (0, .ref (ad 0)), (1, .int p1), (2, .int p2)] dX7_wonOn_41 rfl rfl (by decide) rfl ?_
      refine g_goto C 44 5 dX7_wonOn_44 (by decide) ?_
      exact g_sub _ [2, 3, 4, 1, 0] rfl (hself4 v7 (x2 + 1) u6)
    · skip
      refine g_icmp_ne C 28 38 dX7_wonOn_28 (by decide) ?_ ?_
      · skip
        refine g_iconst C 38 0 dX7_wonOn_38 rfl ?_
        exact g_sub _ [0, 1, 2, 4] rfl (hJ39 0 u3)
      · skip
        refine g_iconst C 31 1 dX7_wonOn_31 rfl ?_
        refine g_iload C 32 4 dX7_wonOn_32 rfl ?_
        refine g_ishl C 34 dX7_wonOn_34 ?_
        refine g_goto C 35 39 dX7_wonOn_35 (by decide) ?_
        exact g_sub _ [0, 1, 2, 4] rfl (hJ39 (1 <<< (x2 &&& 31)) u3)
def bX7_lengthsOn_4 (F : Nat) (p1 : Int32) (self4 : Int32 → Int32 → St → Option (Int32 × St)) (x1 : Int32) (x2 : Int32) (u3 : St) : Option (Int32 × St) :=
  if (2 * (u3.1 0)) ≤ x2 then some (x1, u3) else gd (inb ((p1 + 8) + x2) 408) (vl (x1 + (u3.2 0 (Int32.toNatClampNeg ((p1 + 8) + x2)))) (fun v5 => (self4 v5 (x2 + 1) u3)))
def pX7_lengthsOn (F : Nat) (p1 : Int32) (u : St) : Option (Int32 × St) :=
  (lq2 (bX7_lengthsOn_4 F p1) F 0 0 u)
set_option maxRecDepth 100000 in
set_option maxHeartbeats 4000000 in
theorem tX7_lengthsOn {l : Launch} {D : va_G} {cI cZ : ClassId} {ad : Nat → Nat} (F : Nat) (p1 : Int32) (u : St) : CtI l D [(cI, .int), (cZ, .boolean)] (wM ad cI cZ) E0 yX7_lengthsOn wsX7_lengthsOn ({ frames := 0, cells := 0, slots := 0, locals := 0 } : Room) [.ref (ad 0), .int p1] u (pX7_lengthsOn F p1 u) := by
  refine ctI_of (own := RX7) (cc := cX7_lengthsOn) (n := 4) (ret := (some .int)) (by decide) rfl rfl (Nat.le_of_ble_eq_true rfl) (lv := [(0, .ref (ad 0)), (1, .int p1)]) rfl (fun C => ?_)
  have iX7 : ∀ w ∈ wsX70, w ∈ wsX7_lengthsOn := fun w h => List.mem_cons_of_mem _ (List.mem_append_right _ (inlX7 w h))
  rw [pX7_lengthsOn]
  refine g_iconst C 0 0 dX7_lengthsOn_0 rfl ?_
  refine g_istore_n C 1 [(2, .int 0), (0, .ref (ad 0)), (1, .int p1)] dX7_lengthsOn_1 (by decide) rfl ?_
  refine g_iconst C 2 0 dX7_lengthsOn_2 rfl ?_
  refine g_istore_n C 3 [(3, .int 0), (2, .int 0), (0, .ref (ad 0)), (1, .int p1)] dX7_lengthsOn_3 (by decide) rfl ?_
  refine g_sub _ [2, 3, 1, 0] rfl ?_
  refine g_lq2 (fun (x1 : Int32) (x2 : Int32) => [(0, .ref (ad 0)), (1, .int p1), (2, .int x1), (3, .int x2)]) (fun self4 hself4 x1 x2 u3 => ?_) F 0 0 u
  rw [bX7_lengthsOn_4]
  refine g_iload_n C 4 3 dX7_lengthsOn_4 rfl ?_
  refine g_iconst C 5 2 dX7_lengthsOn_5 rfl ?_
  refine g_aload_n C 6 0 dX7_lengthsOn_6 rfl ?_
  refine gfM_X7_caseMany C 7 iX7 (List.mem_cons_of_mem _ (List.mem_append_right _ wgL_15_16.1)) dX7_lengthsOn_7 ?_
  refine g_imul C 10 dX7_lengthsOn_10 ?_
  refine g_icmp_ge C 11 34 dX7_lengthsOn_11 (by decide) ?_ ?_
  · skip
    refine g_iload_n C 34 2 dX7_lengthsOn_34 rfl ?_
    exact g_iret C 35 dX7_lengthsOn_35
  · skip
    refine g_iload_n C 14 2 dX7_lengthsOn_14 rfl ?_
    refine g_aload_n C 15 0 dX7_lengthsOn_15 rfl ?_
    refine gfM_X7_state C 16 iX7 (List.mem_cons_of_mem _ (List.mem_append_right _ wgL_5_14.1)) dX7_lengthsOn_16 ?_
    refine g_iload_n C 19 1 dX7_lengthsOn_19 rfl ?_
    refine g_bipush C 20 8 dX7_lengthsOn_20 rfl ?_
    refine g_iadd C 22 dX7_lengthsOn_22 ?_
    refine g_iload_n C 23 3 dX7_lengthsOn_23 rfl ?_
    refine g_iadd C 24 dX7_lengthsOn_24 ?_
    refine g_iald C 25 (1 + 0) 0 (wM_arr 0 (by decide)) rfl dX7_lengthsOn_25 ?_
    refine g_iadd C 26 dX7_lengthsOn_26 ?_
    refine g_istore_nV C 27 (fun v5 => [(2, .int v5), (0, .ref (ad 0)), (1, .int p1), (3, .int x2)]) dX7_lengthsOn_27 (by decide) (fun _ => rfl) (fun v5 => ?_)
    refine g_iinc C 28 3 [(3, .int (x2 + 1)), (2, .int v5), (0, .ref (ad 0)), (1, .int p1)] dX7_lengthsOn_28 rfl rfl (by decide) rfl ?_
    refine g_goto C 31 4 dX7_lengthsOn_31 (by decide) ?_
    exact g_sub _ [2, 3, 1, 0] rfl (hself4 v5 (x2 + 1) u3)
def pX7_lengthOf (F : Nat) (p1 : Int32) (p2 : Int32) (u : St) : Option (Int32 × St) :=
  gd (inb ((p1 + 8) + (2 * p2)) 408) (gd (inb (((p1 + 8) + (2 * p2)) + 1) 408) (some (((u.2 0 (Int32.toNatClampNeg ((p1 + 8) + (2 * p2)))) + (u.2 0 (Int32.toNatClampNeg (((p1 + 8) + (2 * p2)) + 1)))), u)))
set_option maxRecDepth 100000 in
set_option maxHeartbeats 4000000 in
theorem tX7_lengthOf {l : Launch} {D : va_G} {cI cZ : ClassId} {ad : Nat → Nat} (F : Nat) (p1 : Int32) (p2 : Int32) (u : St) : CtI l D [(cI, .int), (cZ, .boolean)] (wM ad cI cZ) E0 yX7_lengthOf wsX7_lengthOf ({ frames := 0, cells := 0, slots := 0, locals := 0 } : Room) [.ref (ad 0), .int p1, .int p2] u (pX7_lengthOf F p1 p2 u) := by
  refine ctI_of (own := RX7) (cc := cX7_lengthOf) (n := 3) (ret := (some .int)) (by decide) rfl rfl (Nat.le_of_ble_eq_true rfl) (lv := [(0, .ref (ad 0)), (1, .int p1), (2, .int p2)]) rfl (fun C => ?_)
  have iX7 : ∀ w ∈ wsX70, w ∈ wsX7_lengthOf := fun w h => List.mem_cons_of_mem _ (List.mem_append_right _ (inlX7 w h))
  rw [pX7_lengthOf]
  refine g_aload_n C 0 0 dX7_lengthOf_0 rfl ?_
  refine gfM_X7_state C 1 iX7 (List.mem_cons_of_mem _ (List.mem_append_right _ wgL_5_14.1)) dX7_lengthOf_1 ?_
  refine g_iload_n C 4 1 dX7_lengthOf_4 rfl ?_
  refine g_bipush C 5 8 dX7_lengthOf_5 rfl ?_
  refine g_iadd C 7 dX7_lengthOf_7 ?_
  refine g_iconst C 8 2 dX7_lengthOf_8 rfl ?_
  refine g_iload_n C 9 2 dX7_lengthOf_9 rfl ?_
  refine g_imul C 10 dX7_lengthOf_10 ?_
  refine g_iadd C 11 dX7_lengthOf_11 ?_
  refine g_iald C 12 (1 + 0) 0 (wM_arr 0 (by decide)) rfl dX7_lengthOf_12 ?_
  refine g_aload_n C 13 0 dX7_lengthOf_13 rfl ?_
  refine gfM_X7_state C 14 iX7 (List.mem_cons_of_mem _ (List.mem_append_right _ wgL_5_14.1)) dX7_lengthOf_14 ?_
  refine g_iload_n C 17 1 dX7_lengthOf_17 rfl ?_
  refine g_bipush C 18 8 dX7_lengthOf_18 rfl ?_
  refine g_iadd C 20 dX7_lengthOf_20 ?_
  refine g_iconst C 21 2 dX7_lengthOf_21 rfl ?_
  refine g_iload_n C 22 2 dX7_lengthOf_22 rfl ?_
  refine g_imul C 23 dX7_lengthOf_23 ?_
  refine g_iadd C 24 dX7_lengthOf_24 ?_
  refine g_iconst C 25 1 dX7_lengthOf_25 rfl ?_
  refine g_iadd C 26 dX7_lengthOf_26 ?_
  refine g_iald C 27 (1 + 0) 0 (wM_arr 0 (by decide)) rfl dX7_lengthOf_27 ?_
  refine g_iadd C 28 dX7_lengthOf_28 ?_
  exact g_iret C 29 dX7_lengthOf_29
def pX7_rule (F : Nat) (p1 : Int32) (u : St) : Option (Int32 × St) :=
  if p1 = 0 then some ((u.1 0), u) else if p1 = 1 then some ((u.1 1), u) else if p1 = 2 then gd (inb 46 408) (some ((u.2 0 (Int32.toNatClampNeg 46)), u)) else if p1 = 3 then gd (inb 55 408) (some ((u.2 0 (Int32.toNatClampNeg 55)), u)) else if p1 = 4 then bd (pX7_wonOn F 0 (p1 - 3) u) (fun (r2 : Int32) (u1 : St) => some (r2, u1)) else if p1 = 5 then bd (pX7_wonOn F 0 (p1 - 3) u) (fun (r4 : Int32) (u3 : St) => some (r4, u3)) else if p1 = 6 then bd (pX7_wonOn F 0 (p1 - 3) u) (fun (r6 : Int32) (u5 : St) => some (r6, u5)) else if p1 = 7 then bd (pX7_lengthsOn F 0 u) (fun (r8 : Int32) (u7 : St) => some (r8, u7)) else some ((-1), u)
set_option maxRecDepth 100000 in
set_option maxHeartbeats 4000000 in
theorem tX7_rule {l : Launch} {D : va_G} {cI cZ : ClassId} {ad : Nat → Nat} (F : Nat) (p1 : Int32) (u : St) : CtI l D [(cI, .int), (cZ, .boolean)] (wM ad cI cZ) E0 yX7_rule wsX7_rule ({ frames := 1, cells := 0, slots := 0, locals := 24 } : Room) [.ref (ad 0), .int p1] u (pX7_rule F p1 u) := by
  refine ctI_of (own := RX7) (cc := cX7_rule) (n := 2) (ret := (some .int)) (by decide) rfl rfl (Nat.le_of_ble_eq_true rfl) (lv := [(0, .ref (ad 0)), (1, .int p1)]) rfl (fun C => ?_)
  have iX7 : ∀ w ∈ wsX70, w ∈ wsX7_rule := fun w h => List.mem_cons_of_mem _ (List.mem_append_right _ (inlX7 w h))
  rw [pX7_rule]
  refine g_iload_n C 0 1 dX7_rule_0 rfl ?_
  refine g_tsw C 1 48 0 dX7_rule_1 (by decide) rfl (by decide) ?_ (fun q0 => ?_)
  · skip
    refine g_aload_n C 48 0 dX7_rule_48 rfl ?_
    refine gfM_X7_caseMany C 49 iX7 (List.mem_cons_of_mem _ (List.mem_append_right _ wgL_15_16.1)) dX7_rule_49 ?_
    exact g_iret C 52 dX7_rule_52
  refine g_tsw C 1 53 1 dX7_rule_1 (by decide) rfl (by decide) ?_ (fun q1 => ?_)
  · skip
    refine g_aload_n C 53 0 dX7_rule_53 rfl ?_
    refine gfM_X7_judgeMany C 54 iX7 (List.mem_cons_of_mem _ (List.mem_append_right _ wgL_15_17.1)) dX7_rule_54 ?_
    exact g_iret C 57 dX7_rule_57
  refine g_tsw C 1 58 2 dX7_rule_1 (by decide) rfl (by decide) ?_ (fun q2 => ?_)
  · skip
    refine g_aload_n C 58 0 dX7_rule_58 rfl ?_
    refine gfM_X7_state C 59 iX7 (List.mem_cons_of_mem _ (List.mem_append_right _ wgL_5_14.1)) dX7_rule_59 ?_
    refine g_bipush C 62 46 dX7_rule_62 rfl ?_
    refine g_iald C 64 (1 + 0) 0 (wM_arr 0 (by decide)) rfl dX7_rule_64 ?_
    exact g_iret C 65 dX7_rule_65
  refine g_tsw C 1 66 3 dX7_rule_1 (by decide) rfl (by decide) ?_ (fun q3 => ?_)
  · skip
    refine g_aload_n C 66 0 dX7_rule_66 rfl ?_
    refine gfM_X7_state C 67 iX7 (List.mem_cons_of_mem _ (List.mem_append_right _ wgL_5_14.1)) dX7_rule_67 ?_
    refine g_bipush C 70 55 dX7_rule_70 rfl ?_
    refine g_iald C 72 (1 + 0) 0 (wM_arr 0 (by decide)) rfl dX7_rule_72 ?_
    exact g_iret C 73 dX7_rule_73
  refine g_tsw C 1 74 4 dX7_rule_1 (by decide) rfl (by decide) ?_ (fun q4 => ?_)
  · skip
    refine g_aload_n C 74 0 dX7_rule_74 rfl ?_
    refine g_iconst C 75 0 dX7_rule_75 rfl ?_
    refine g_iload_n C 76 1 dX7_rule_76 rfl ?_
    refine g_iconst C 77 3 dX7_rule_77 rfl ?_
    refine g_isub C 78 dX7_rule_78 ?_
    refine g_callVi (st := []) (As := [.int 0, .int (p1 - 3)]) C E0_ok E0_vm 79 0 2 (tX7_wonOn F 0 (p1 - 3) u) rfl gX7_rule_X7_wonOn rfl rfl rfl (by decide +kernel) ⟨Nat.le_of_ble_eq_true rfl, Nat.le_of_ble_eq_true rfl⟩ rfl rfl rfl (Nat.le_of_ble_eq_true rfl) dX7_rule_79 (fun r2 u1 => ?_)
    exact g_iret C 82 dX7_rule_82
  refine g_tsw C 1 74 5 dX7_rule_1 (by decide) rfl (by decide) ?_ (fun q5 => ?_)
  · skip
    refine g_aload_n C 74 0 dX7_rule_74 rfl ?_
    refine g_iconst C 75 0 dX7_rule_75 rfl ?_
    refine g_iload_n C 76 1 dX7_rule_76 rfl ?_
    refine g_iconst C 77 3 dX7_rule_77 rfl ?_
    refine g_isub C 78 dX7_rule_78 ?_
    refine g_callVi (st := []) (As := [.int 0, .int (p1 - 3)]) C E0_ok E0_vm 79 0 2 (tX7_wonOn F 0 (p1 - 3) u) rfl gX7_rule_X7_wonOn rfl rfl rfl (by decide +kernel) ⟨Nat.le_of_ble_eq_true rfl, Nat.le_of_ble_eq_true rfl⟩ rfl rfl rfl (Nat.le_of_ble_eq_true rfl) dX7_rule_79 (fun r4 u3 => ?_)
    exact g_iret C 82 dX7_rule_82
  refine g_tsw C 1 74 6 dX7_rule_1 (by decide) rfl (by decide) ?_ (fun q6 => ?_)
  · skip
    refine g_aload_n C 74 0 dX7_rule_74 rfl ?_
    refine g_iconst C 75 0 dX7_rule_75 rfl ?_
    refine g_iload_n C 76 1 dX7_rule_76 rfl ?_
    refine g_iconst C 77 3 dX7_rule_77 rfl ?_
    refine g_isub C 78 dX7_rule_78 ?_
    refine g_callVi (st := []) (As := [.int 0, .int (p1 - 3)]) C E0_ok E0_vm 79 0 2 (tX7_wonOn F 0 (p1 - 3) u) rfl gX7_rule_X7_wonOn rfl rfl rfl (by decide +kernel) ⟨Nat.le_of_ble_eq_true rfl, Nat.le_of_ble_eq_true rfl⟩ rfl rfl rfl (Nat.le_of_ble_eq_true rfl) dX7_rule_79 (fun r6 u5 => ?_)
    exact g_iret C 82 dX7_rule_82
  refine g_tsw C 1 83 7 dX7_rule_1 (by decide) rfl (by decide) ?_ (fun q7 => ?_)
  · skip
    refine g_aload_n C 83 0 dX7_rule_83 rfl ?_
    refine g_iconst C 84 0 dX7_rule_84 rfl ?_
    refine g_callVi (st := []) (As := [.int 0]) C E0_ok E0_vm 85 0 1 (tX7_lengthsOn F 0 u) rfl gX7_rule_X7_lengthsOn rfl rfl rfl (by decide +kernel) ⟨Nat.le_of_ble_eq_true rfl, Nat.le_of_ble_eq_true rfl⟩ rfl rfl rfl (Nat.le_of_ble_eq_true rfl) dX7_rule_85 (fun r8 u7 => ?_)
    exact g_iret C 88 dX7_rule_88
  refine g_tswD C 1 89 dX7_rule_1 (by have r0 := lv_neT (a := 0) q0 rfl; have r1 := lv_neT (a := 1) q1 rfl; have r2 := lv_neT (a := 2) q2 rfl; have r3 := lv_neT (a := 3) q3 rfl; have r4 := lv_neT (a := 4) q4 rfl; have r5 := lv_neT (a := 5) q5 rfl; have r6 := lv_neT (a := 6) q6 rfl; have r7 := lv_neT (a := 7) q7 rfl; omega) (by decide) ?_
  refine g_iconst C 89 (-1) dX7_rule_89 rfl ?_
  exact g_iret C 90 dX7_rule_90
def pX7_flame (F : Nat) (p1 : Int32) (p2 : Int32) (p3 : Int32) (u : St) : Option (Int32 × St) :=
  bd (pX7_isCase F p1 u) (fun (r2 : Int32) (u1 : St) => if r2 = 0 then some ((-1), u1) else bd (pX7_isSide F p2 u1) (fun (r4 : Int32) (u3 : St) => if r4 = 0 then some ((-1), u3) else bd (pX7_in F (Int32.toInt64 p3) 0 3 u3) (fun (r6 : Int32) (u5 : St) => if r6 = 0 then some ((-1), u5) else if p3 = 3 then gd (inb ((2 * p1) + p2) 408) (gd (inb (u5.2 0 (Int32.toNatClampNeg ((2 * p1) + p2))) 4) (some ((u5.2 1 (Int32.toNatClampNeg (u5.2 0 (Int32.toNatClampNeg ((2 * p1) + p2))))), u5))) else gd (inb (((8 * p3) + (2 * p1)) + p2) 408) (some ((u5.2 0 (Int32.toNatClampNeg (((8 * p3) + (2 * p1)) + p2))), u5)))))
set_option maxRecDepth 100000 in
set_option maxHeartbeats 4000000 in
theorem tX7_flame {l : Launch} {D : va_G} {cI cZ : ClassId} {ad : Nat → Nat} (F : Nat) (p1 : Int32) (p2 : Int32) (p3 : Int32) (u : St) : CtI l D [(cI, .int), (cZ, .boolean)] (wM ad cI cZ) E0 yX7_flame wsX7_flame ({ frames := 2, cells := 0, slots := 0, locals := 46 } : Room) [.ref (ad 0), .int p1, .int p2, .int p3] u (pX7_flame F p1 p2 p3 u) := by
  refine ctI_of (own := RX7) (cc := cX7_flame) (n := 4) (ret := (some .int)) (by decide) rfl rfl (Nat.le_of_ble_eq_true rfl) (lv := [(0, .ref (ad 0)), (1, .int p1), (2, .int p2), (3, .int p3)]) rfl (fun C => ?_)
  have iX7 : ∀ w ∈ wsX70, w ∈ wsX7_flame := fun w h => List.mem_cons_of_mem _ (List.mem_append_right _ (inlX7 w h))
  rw [pX7_flame]
  refine g_aload_n C 0 0 dX7_flame_0 rfl ?_
  refine g_iload_n C 1 1 dX7_flame_1 rfl ?_
  refine g_callVi (st := []) (As := [.int p1]) C E0_ok E0_vm 2 0 1 (tX7_isCase F p1 u) rfl gX7_flame_X7_isCase rfl rfl rfl (by decide +kernel) ⟨Nat.le_of_ble_eq_true rfl, Nat.le_of_ble_eq_true rfl⟩ rfl rfl rfl (Nat.le_of_ble_eq_true rfl) dX7_flame_2 (fun r2 u1 => ?_)
  refine g_if_eq C 5 27 dX7_flame_5 (by decide) ?_ ?_
  · skip
    refine g_iconst C 27 (-1) dX7_flame_27 rfl ?_
    exact g_iret C 28 dX7_flame_28
  · skip
    refine g_iload_n C 8 2 dX7_flame_8 rfl ?_
    refine g_callSi (st := []) (As := [.int p2]) C E0_ok E0_vm 9 1 (tX7_isSide F p2 u1) rfl gX7_flame_X7_isSide rfl rfl rfl (by decide +kernel) ⟨Nat.le_of_ble_eq_true rfl, Nat.le_of_ble_eq_true rfl⟩ rfl (Nat.le_of_ble_eq_true rfl) dX7_flame_9 (fun r4 u3 => ?_)
    refine g_if_eq C 12 27 dX7_flame_12 (by decide) ?_ ?_
    · skip
      refine g_iconst C 27 (-1) dX7_flame_27 rfl ?_
      exact g_iret C 28 dX7_flame_28
    · skip
      refine g_iload_n C 15 3 dX7_flame_15 rfl ?_
      refine g_i2l C 16 dX7_flame_16 ?_
      refine g_lconst C 17 0 dX7_flame_17 rfl ?_
      refine g_ldc2 C 18 3 (by decide +kernel) dX7_flame_18 ?_
      refine g_callSi (st := []) (As := [.long (Int32.toInt64 p3), .long 0, .long 3]) C E0_ok E0_vm 21 3 (tX7_in F (Int32.toInt64 p3) 0 3 u3) rfl gX7_flame_X7_in rfl rfl rfl (by decide +kernel) ⟨Nat.le_of_ble_eq_true rfl, Nat.le_of_ble_eq_true rfl⟩ rfl (Nat.le_of_ble_eq_true rfl) dX7_flame_21 (fun r6 u5 => ?_)
      refine g_if_ne C 24 29 dX7_flame_24 (by decide) ?_ ?_
      · skip
        refine g_iload_n C 29 3 dX7_flame_29 rfl ?_
        refine g_iconst C 30 3 dX7_flame_30 rfl ?_
        refine g_icmp_ne C 31 52 dX7_flame_31 (by decide) ?_ ?_
        · skip
          refine g_aload_n C 52 0 dX7_flame_52 rfl ?_
          refine gfM_X7_state C 53 iX7 (List.mem_cons_of_mem _ (List.mem_append_right _ wgL_5_14.1)) dX7_flame_53 ?_
          refine g_bipush C 56 8 dX7_flame_56 rfl ?_
          refine g_iload_n C 58 3 dX7_flame_58 rfl ?_
          refine g_imul C 59 dX7_flame_59 ?_
          refine g_iconst C 60 2 dX7_flame_60 rfl ?_
          refine g_iload_n C 61 1 dX7_flame_61 rfl ?_
          refine g_imul C 62 dX7_flame_62 ?_
          refine g_iadd C 63 dX7_flame_63 ?_
          refine g_iload_n C 64 2 dX7_flame_64 rfl ?_
          refine g_iadd C 65 dX7_flame_65 ?_
          refine g_iald C 66 (1 + 0) 0 (wM_arr 0 (by decide)) rfl dX7_flame_66 ?_
          exact g_iret C 67 dX7_flame_67
        · skip
          refine g_aload_n C 34 0 dX7_flame_34 rfl ?_
          refine gfM_X7_burns C 35 iX7 (List.mem_cons_of_mem _ (List.mem_append_right _ wgL_5_15.1)) dX7_flame_35 ?_
          refine g_aload_n C 38 0 dX7_flame_38 rfl ?_
          refine gfM_X7_state C 39 iX7 (List.mem_cons_of_mem _ (List.mem_append_right _ wgL_5_14.1)) dX7_flame_39 ?_
          refine g_iconst C 42 2 dX7_flame_42 rfl ?_
          refine g_iload_n C 43 1 dX7_flame_43 rfl ?_
          refine g_imul C 44 dX7_flame_44 ?_
          refine g_iload_n C 45 2 dX7_flame_45 rfl ?_
          refine g_iadd C 46 dX7_flame_46 ?_
          refine g_iald C 47 (1 + 0) 0 (wM_arr 0 (by decide)) rfl dX7_flame_47 ?_
          refine g_iald C 48 (1 + 1) 0 (wM_arr 1 (by decide)) rfl dX7_flame_48 ?_
          refine g_goto C 49 67 dX7_flame_49 (by decide) ?_
          exact g_iret C 67 dX7_flame_67
      · skip
        refine g_iconst C 27 (-1) dX7_flame_27 rfl ?_
        exact g_iret C 28 dX7_flame_28
def pX7_suit (F : Nat) (p1 : Int32) (p2 : Int32) (u : St) : Option (Int32 × St) :=
  bd (pX7_isCase F p1 u) (fun (r2 : Int32) (u1 : St) => if r2 = 0 then some ((-1), u1) else bd (pX7_in F (Int32.toInt64 p2) 0 3 u1) (fun (r4 : Int32) (u3 : St) => if r4 = 0 then some ((-1), u3) else gd (inb ((24 + (4 * p2)) + p1) 408) (vl (u3.2 0 (Int32.toNatClampNeg ((24 + (4 * p2)) + p1))) (fun v5 => if 2 ≤ p2 then if v5 = 0 then some ((-4), u3) else some ((v5 - 1), u3) else some (v5, u3)))))
set_option maxRecDepth 100000 in
set_option maxHeartbeats 4000000 in
theorem tX7_suit {l : Launch} {D : va_G} {cI cZ : ClassId} {ad : Nat → Nat} (F : Nat) (p1 : Int32) (p2 : Int32) (u : St) : CtI l D [(cI, .int), (cZ, .boolean)] (wM ad cI cZ) E0 yX7_suit wsX7_suit ({ frames := 2, cells := 0, slots := 0, locals := 46 } : Room) [.ref (ad 0), .int p1, .int p2] u (pX7_suit F p1 p2 u) := by
  refine ctI_of (own := RX7) (cc := cX7_suit) (n := 4) (ret := (some .int)) (by decide) rfl rfl (Nat.le_of_ble_eq_true rfl) (lv := [(0, .ref (ad 0)), (1, .int p1), (2, .int p2)]) rfl (fun C => ?_)
  have iX7 : ∀ w ∈ wsX70, w ∈ wsX7_suit := fun w h => List.mem_cons_of_mem _ (List.mem_append_right _ (inlX7 w h))
  rw [pX7_suit]
  refine g_aload_n C 0 0 dX7_suit_0 rfl ?_
  refine g_iload_n C 1 1 dX7_suit_1 rfl ?_
  refine g_callVi (st := []) (As := [.int p1]) C E0_ok E0_vm 2 0 1 (tX7_isCase F p1 u) rfl gX7_suit_X7_isCase rfl rfl rfl (by decide +kernel) ⟨Nat.le_of_ble_eq_true rfl, Nat.le_of_ble_eq_true rfl⟩ rfl rfl rfl (Nat.le_of_ble_eq_true rfl) dX7_suit_2 (fun r2 u1 => ?_)
  refine g_if_eq C 5 20 dX7_suit_5 (by decide) ?_ ?_
  · skip
    refine g_iconst C 20 (-1) dX7_suit_20 rfl ?_
    exact g_iret C 21 dX7_suit_21
  · skip
    refine g_iload_n C 8 2 dX7_suit_8 rfl ?_
    refine g_i2l C 9 dX7_suit_9 ?_
    refine g_lconst C 10 0 dX7_suit_10 rfl ?_
    refine g_ldc2 C 11 3 (by decide +kernel) dX7_suit_11 ?_
    refine g_callSi (st := []) (As := [.long (Int32.toInt64 p2), .long 0, .long 3]) C E0_ok E0_vm 14 3 (tX7_in F (Int32.toInt64 p2) 0 3 u1) rfl gX7_suit_X7_in rfl rfl rfl (by decide +kernel) ⟨Nat.le_of_ble_eq_true rfl, Nat.le_of_ble_eq_true rfl⟩ rfl (Nat.le_of_ble_eq_true rfl) dX7_suit_14 (fun r4 u3 => ?_)
    refine g_if_ne C 17 22 dX7_suit_17 (by decide) ?_ ?_
    · skip
      refine g_aload_n C 22 0 dX7_suit_22 rfl ?_
      refine gfM_X7_state C 23 iX7 (List.mem_cons_of_mem _ (List.mem_append_right _ wgL_5_14.1)) dX7_suit_23 ?_
      refine g_bipush C 26 24 dX7_suit_26 rfl ?_
      refine g_iconst C 28 4 dX7_suit_28 rfl ?_
      refine g_iload_n C 29 2 dX7_suit_29 rfl ?_
      refine g_imul C 30 dX7_suit_30 ?_
      refine g_iadd C 31 dX7_suit_31 ?_
      refine g_iload_n C 32 1 dX7_suit_32 rfl ?_
      refine g_iadd C 33 dX7_suit_33 ?_
      refine g_iald C 34 (1 + 0) 0 (wM_arr 0 (by decide)) rfl dX7_suit_34 ?_
      refine g_istore_nV C 35 (fun v5 => [(3, .int v5), (0, .ref (ad 0)), (1, .int p1), (2, .int p2)]) dX7_suit_35 (by decide) (fun _ => rfl) (fun v5 => ?_)
      refine g_iload_n C 36 3 dX7_suit_36 rfl ?_
      refine g_iconst C 37 2 dX7_suit_37 rfl ?_
      refine g_icmp_ge C 38 45 dX7_suit_38 (by decide) ?_ ?_
      · skip
        refine g_iload_n C 45 0 dX7_suit_45 rfl ?_
        refine g_if_ne C 46 54 dX7_suit_46 (by decide) ?_ ?_
        · skip
          refine g_iload_n C 54 0 dX7_suit_54 rfl ?_
          refine g_iconst C 55 1 dX7_suit_55 rfl ?_
          refine g_isub C 56 dX7_suit_56 ?_
          exact g_iret C 57 dX7_suit_57
        · skip
          refine g_bipush C 49 (-4) dX7_suit_49 rfl ?_
          refine g_goto C 51 57 dX7_suit_51 (by decide) ?_
          exact g_iret C 57 dX7_suit_57
      · skip
        refine g_iload_n C 41 0 dX7_suit_41 rfl ?_
        refine g_goto C 42 57 dX7_suit_42 (by decide) ?_
        exact g_iret C 57 dX7_suit_57
    · skip
      refine g_iconst C 20 (-1) dX7_suit_20 rfl ?_
      exact g_iret C 21 dX7_suit_21
def pX7_judge (F : Nat) (p1 : Int32) (p2 : Int32) (u : St) : Option (Int32 × St) :=
  bd (pX7_isJudge F p1 u) (fun (r2 : Int32) (u1 : St) => if r2 = 0 then some ((-1), u1) else bd (pX7_in F (Int32.toInt64 p2) 0 1 u1) (fun (r4 : Int32) (u3 : St) => if r4 = 0 then some ((-1), u3) else gd (inb ((40 + (3 * p2)) + p1) 408) (some ((u3.2 0 (Int32.toNatClampNeg ((40 + (3 * p2)) + p1))), u3))))
set_option maxRecDepth 100000 in
set_option maxHeartbeats 4000000 in
theorem tX7_judge {l : Launch} {D : va_G} {cI cZ : ClassId} {ad : Nat → Nat} (F : Nat) (p1 : Int32) (p2 : Int32) (u : St) : CtI l D [(cI, .int), (cZ, .boolean)] (wM ad cI cZ) E0 yX7_judge wsX7_judge ({ frames := 2, cells := 0, slots := 0, locals := 46 } : Room) [.ref (ad 0), .int p1, .int p2] u (pX7_judge F p1 p2 u) := by
  refine ctI_of (own := RX7) (cc := cX7_judge) (n := 3) (ret := (some .int)) (by decide) rfl rfl (Nat.le_of_ble_eq_true rfl) (lv := [(0, .ref (ad 0)), (1, .int p1), (2, .int p2)]) rfl (fun C => ?_)
  have iX7 : ∀ w ∈ wsX70, w ∈ wsX7_judge := fun w h => List.mem_cons_of_mem _ (List.mem_append_right _ (inlX7 w h))
  rw [pX7_judge]
  refine g_aload_n C 0 0 dX7_judge_0 rfl ?_
  refine g_iload_n C 1 1 dX7_judge_1 rfl ?_
  refine g_callVi (st := []) (As := [.int p1]) C E0_ok E0_vm 2 0 1 (tX7_isJudge F p1 u) rfl gX7_judge_X7_isJudge rfl rfl rfl (by decide +kernel) ⟨Nat.le_of_ble_eq_true rfl, Nat.le_of_ble_eq_true rfl⟩ rfl rfl rfl (Nat.le_of_ble_eq_true rfl) dX7_judge_2 (fun r2 u1 => ?_)
  refine g_if_eq C 5 34 dX7_judge_5 (by decide) ?_ ?_
  · skip
    refine g_iconst C 34 (-1) dX7_judge_34 rfl ?_
    exact g_iret C 35 dX7_judge_35
  · skip
    refine g_iload_n C 8 2 dX7_judge_8 rfl ?_
    refine g_i2l C 9 dX7_judge_9 ?_
    refine g_lconst C 10 0 dX7_judge_10 rfl ?_
    refine g_lconst C 11 1 dX7_judge_11 rfl ?_
    refine g_callSi (st := []) (As := [.long (Int32.toInt64 p2), .long 0, .long 1]) C E0_ok E0_vm 12 3 (tX7_in F (Int32.toInt64 p2) 0 1 u1) rfl gX7_judge_X7_in rfl rfl rfl (by decide +kernel) ⟨Nat.le_of_ble_eq_true rfl, Nat.le_of_ble_eq_true rfl⟩ rfl (Nat.le_of_ble_eq_true rfl) dX7_judge_12 (fun r4 u3 => ?_)
    refine g_if_eq C 15 34 dX7_judge_15 (by decide) ?_ ?_
    · skip
      refine g_iconst C 34 (-1) dX7_judge_34 rfl ?_
      exact g_iret C 35 dX7_judge_35
    · skip
      refine g_aload_n C 18 0 dX7_judge_18 rfl ?_
      refine gfM_X7_state C 19 iX7 (List.mem_cons_of_mem _ (List.mem_append_right _ wgL_5_14.1)) dX7_judge_19 ?_
      refine g_bipush C 22 40 dX7_judge_22 rfl ?_
      refine g_iconst C 24 3 dX7_judge_24 rfl ?_
      refine g_iload_n C 25 2 dX7_judge_25 rfl ?_
      refine g_imul C 26 dX7_judge_26 ?_
      refine g_iadd C 27 dX7_judge_27 ?_
      refine g_iload_n C 28 1 dX7_judge_28 rfl ?_
      refine g_iadd C 29 dX7_judge_29 ?_
      refine g_iald C 30 (1 + 0) 0 (wM_arr 0 (by decide)) rfl dX7_judge_30 ?_
      refine g_goto C 31 35 dX7_judge_31 (by decide) ?_
      exact g_iret C 35 dX7_judge_35
def pX7_draught (F : Nat) (p1 : Int32) (p2 : Int32) (u : St) : Option (Int32 × St) :=
  gd (inb 46 408) (bd (pX7_in F (Int32.toInt64 p1) 0 (Int32.toInt64 ((u.2 0 (Int32.toNatClampNeg 46)) - 1)) u) (fun (r2 : Int32) (u1 : St) => if r2 = 0 then some ((-1), u1) else bd (pX7_in F (Int32.toInt64 p2) 0 1 u1) (fun (r4 : Int32) (u3 : St) => if r4 = 0 then some ((-1), u3) else gd (inb ((47 + (4 * p2)) + p1) 408) (some ((u3.2 0 (Int32.toNatClampNeg ((47 + (4 * p2)) + p1))), u3)))))
set_option maxRecDepth 100000 in
set_option maxHeartbeats 4000000 in
theorem tX7_draught {l : Launch} {D : va_G} {cI cZ : ClassId} {ad : Nat → Nat} (F : Nat) (p1 : Int32) (p2 : Int32) (u : St) : CtI l D [(cI, .int), (cZ, .boolean)] (wM ad cI cZ) E0 yX7_draught wsX7_draught ({ frames := 1, cells := 0, slots := 0, locals := 25 } : Room) [.ref (ad 0), .int p1, .int p2] u (pX7_draught F p1 p2 u) := by
  refine ctI_of (own := RX7) (cc := cX7_draught) (n := 3) (ret := (some .int)) (by decide) rfl rfl (Nat.le_of_ble_eq_true rfl) (lv := [(0, .ref (ad 0)), (1, .int p1), (2, .int p2)]) rfl (fun C => ?_)
  have iX7 : ∀ w ∈ wsX70, w ∈ wsX7_draught := fun w h => List.mem_cons_of_mem _ (List.mem_append_right _ (inlX7 w h))
  rw [pX7_draught]
  refine g_iload_n C 0 1 dX7_draught_0 rfl ?_
  refine g_i2l C 1 dX7_draught_1 ?_
  refine g_lconst C 2 0 dX7_draught_2 rfl ?_
  refine g_aload_n C 3 0 dX7_draught_3 rfl ?_
  refine gfM_X7_state C 4 iX7 (List.mem_cons_of_mem _ (List.mem_append_right _ wgL_5_14.1)) dX7_draught_4 ?_
  refine g_bipush C 7 46 dX7_draught_7 rfl ?_
  refine g_iald C 9 (1 + 0) 0 (wM_arr 0 (by decide)) rfl dX7_draught_9 ?_
  refine g_iconst C 10 1 dX7_draught_10 rfl ?_
  refine g_isub C 11 dX7_draught_11 ?_
  refine g_i2l C 12 dX7_draught_12 ?_
  refine g_callSi (st := []) (As := [.long (Int32.toInt64 p1), .long 0, .long (Int32.toInt64 ((u.2 0 (Int32.toNatClampNeg 46)) - 1))]) C E0_ok E0_vm 13 3 (tX7_in F (Int32.toInt64 p1) 0 (Int32.toInt64 ((u.2 0 (Int32.toNatClampNeg 46)) - 1)) u) rfl gX7_draught_X7_in rfl rfl rfl (by decide +kernel) ⟨Nat.le_of_ble_eq_true rfl, Nat.le_of_ble_eq_true rfl⟩ rfl (Nat.le_of_ble_eq_true rfl) dX7_draught_13 (fun r2 u1 => ?_)
  refine g_if_eq C 16 45 dX7_draught_16 (by decide) ?_ ?_
  · skip
    refine g_iconst C 45 (-1) dX7_draught_45 rfl ?_
    exact g_iret C 46 dX7_draught_46
  · skip
    refine g_iload_n C 19 2 dX7_draught_19 rfl ?_
    refine g_i2l C 20 dX7_draught_20 ?_
    refine g_lconst C 21 0 dX7_draught_21 rfl ?_
    refine g_lconst C 22 1 dX7_draught_22 rfl ?_
    refine g_callSi (st := []) (As := [.long (Int32.toInt64 p2), .long 0, .long 1]) C E0_ok E0_vm 23 3 (tX7_in F (Int32.toInt64 p2) 0 1 u1) rfl gX7_draught_X7_in rfl rfl rfl (by decide +kernel) ⟨Nat.le_of_ble_eq_true rfl, Nat.le_of_ble_eq_true rfl⟩ rfl (Nat.le_of_ble_eq_true rfl) dX7_draught_23 (fun r4 u3 => ?_)
    refine g_if_eq C 26 45 dX7_draught_26 (by decide) ?_ ?_
    · skip
      refine g_iconst C 45 (-1) dX7_draught_45 rfl ?_
      exact g_iret C 46 dX7_draught_46
    · skip
      refine g_aload_n C 29 0 dX7_draught_29 rfl ?_
      refine gfM_X7_state C 30 iX7 (List.mem_cons_of_mem _ (List.mem_append_right _ wgL_5_14.1)) dX7_draught_30 ?_
      refine g_bipush C 33 47 dX7_draught_33 rfl ?_
      refine g_iconst C 35 4 dX7_draught_35 rfl ?_
      refine g_iload_n C 36 2 dX7_draught_36 rfl ?_
      refine g_imul C 37 dX7_draught_37 ?_
      refine g_iadd C 38 dX7_draught_38 ?_
      refine g_iload_n C 39 1 dX7_draught_39 rfl ?_
      refine g_iadd C 40 dX7_draught_40 ?_
      refine g_iald C 41 (1 + 0) 0 (wM_arr 0 (by decide)) rfl dX7_draught_41 ?_
      refine g_goto C 42 46 dX7_draught_42 (by decide) ?_
      exact g_iret C 46 dX7_draught_46
def pX7_docket (F : Nat) (p1 : Int32) (p2 : Int32) (u : St) : Option (Int32 × St) :=
  gd (inb 55 408) (bd (pX7_in F (Int32.toInt64 p1) 0 (Int32.toInt64 ((u.2 0 (Int32.toNatClampNeg 55)) - 1)) u) (fun (r2 : Int32) (u1 : St) => if r2 = 0 then some ((-1), u1) else bd (pX7_in F (Int32.toInt64 p2) 0 1 u1) (fun (r4 : Int32) (u3 : St) => if r4 = 0 then some ((-1), u3) else gd (inb ((56 + (6 * p2)) + p1) 408) (some ((u3.2 0 (Int32.toNatClampNeg ((56 + (6 * p2)) + p1))), u3)))))
set_option maxRecDepth 100000 in
set_option maxHeartbeats 4000000 in
theorem tX7_docket {l : Launch} {D : va_G} {cI cZ : ClassId} {ad : Nat → Nat} (F : Nat) (p1 : Int32) (p2 : Int32) (u : St) : CtI l D [(cI, .int), (cZ, .boolean)] (wM ad cI cZ) E0 yX7_docket wsX7_docket ({ frames := 1, cells := 0, slots := 0, locals := 25 } : Room) [.ref (ad 0), .int p1, .int p2] u (pX7_docket F p1 p2 u) := by
  refine ctI_of (own := RX7) (cc := cX7_docket) (n := 3) (ret := (some .int)) (by decide) rfl rfl (Nat.le_of_ble_eq_true rfl) (lv := [(0, .ref (ad 0)), (1, .int p1), (2, .int p2)]) rfl (fun C => ?_)
  have iX7 : ∀ w ∈ wsX70, w ∈ wsX7_docket := fun w h => List.mem_cons_of_mem _ (List.mem_append_right _ (inlX7 w h))
  rw [pX7_docket]
  refine g_iload_n C 0 1 dX7_docket_0 rfl ?_
  refine g_i2l C 1 dX7_docket_1 ?_
  refine g_lconst C 2 0 dX7_docket_2 rfl ?_
  refine g_aload_n C 3 0 dX7_docket_3 rfl ?_
  refine gfM_X7_state C 4 iX7 (List.mem_cons_of_mem _ (List.mem_append_right _ wgL_5_14.1)) dX7_docket_4 ?_
  refine g_bipush C 7 55 dX7_docket_7 rfl ?_
  refine g_iald C 9 (1 + 0) 0 (wM_arr 0 (by decide)) rfl dX7_docket_9 ?_
  refine g_iconst C 10 1 dX7_docket_10 rfl ?_
  refine g_isub C 11 dX7_docket_11 ?_
  refine g_i2l C 12 dX7_docket_12 ?_
  refine g_callSi (st := []) (As := [.long (Int32.toInt64 p1), .long 0, .long (Int32.toInt64 ((u.2 0 (Int32.toNatClampNeg 55)) - 1))]) C E0_ok E0_vm 13 3 (tX7_in F (Int32.toInt64 p1) 0 (Int32.toInt64 ((u.2 0 (Int32.toNatClampNeg 55)) - 1)) u) rfl gX7_docket_X7_in rfl rfl rfl (by decide +kernel) ⟨Nat.le_of_ble_eq_true rfl, Nat.le_of_ble_eq_true rfl⟩ rfl (Nat.le_of_ble_eq_true rfl) dX7_docket_13 (fun r2 u1 => ?_)
  refine g_if_eq C 16 46 dX7_docket_16 (by decide) ?_ ?_
  · skip
    refine g_iconst C 46 (-1) dX7_docket_46 rfl ?_
    exact g_iret C 47 dX7_docket_47
  · skip
    refine g_iload_n C 19 2 dX7_docket_19 rfl ?_
    refine g_i2l C 20 dX7_docket_20 ?_
    refine g_lconst C 21 0 dX7_docket_21 rfl ?_
    refine g_lconst C 22 1 dX7_docket_22 rfl ?_
    refine g_callSi (st := []) (As := [.long (Int32.toInt64 p2), .long 0, .long 1]) C E0_ok E0_vm 23 3 (tX7_in F (Int32.toInt64 p2) 0 1 u1) rfl gX7_docket_X7_in rfl rfl rfl (by decide +kernel) ⟨Nat.le_of_ble_eq_true rfl, Nat.le_of_ble_eq_true rfl⟩ rfl (Nat.le_of_ble_eq_true rfl) dX7_docket_23 (fun r4 u3 => ?_)
    refine g_if_eq C 26 46 dX7_docket_26 (by decide) ?_ ?_
    · skip
      refine g_iconst C 46 (-1) dX7_docket_46 rfl ?_
      exact g_iret C 47 dX7_docket_47
    · skip
      refine g_aload_n C 29 0 dX7_docket_29 rfl ?_
      refine gfM_X7_state C 30 iX7 (List.mem_cons_of_mem _ (List.mem_append_right _ wgL_5_14.1)) dX7_docket_30 ?_
      refine g_bipush C 33 56 dX7_docket_33 rfl ?_
      refine g_bipush C 35 6 dX7_docket_35 rfl ?_
      refine g_iload_n C 37 2 dX7_docket_37 rfl ?_
      refine g_imul C 38 dX7_docket_38 ?_
      refine g_iadd C 39 dX7_docket_39 ?_
      refine g_iload_n C 40 1 dX7_docket_40 rfl ?_
      refine g_iadd C 41 dX7_docket_41 ?_
      refine g_iald C 42 (1 + 0) 0 (wM_arr 0 (by decide)) rfl dX7_docket_42 ?_
      refine g_goto C 43 47 dX7_docket_43 (by decide) ?_
      exact g_iret C 47 dX7_docket_47
end
section
def pX7_puts (F : Nat) (p1 : Int32) (p2 : Int32) (p3 : Int32) (u : St) : Option (Int32 × St) :=
  if p1 = 0 then some ((-1), u) else gd (inb p2 408) (vl (u.2 0 (Int32.toNatClampNeg p2)) (fun v1 => gd (inb p2 408) (vl (sta u 0 p2 p3) (fun (u2 : St) => some (v1, u2)))))
set_option maxRecDepth 100000 in
set_option maxHeartbeats 4000000 in
theorem tX7_puts {l : Launch} {D : va_G} {cI cZ : ClassId} {ad : Nat → Nat} (F : Nat) (p1 : Int32) (p2 : Int32) (p3 : Int32) (u : St) : CtI l D [(cI, .int), (cZ, .boolean)] (wM ad cI cZ) E0 yX7_puts wsX7_puts ({ frames := 0, cells := 0, slots := 0, locals := 0 } : Room) [.ref (ad 0), .int p1, .int p2, .int p3] u (pX7_puts F p1 p2 p3 u) := by
  refine ctI_of (own := RX7) (cc := cX7_puts) (n := 5) (ret := (some .int)) (by decide) rfl rfl (Nat.le_of_ble_eq_true rfl) (lv := [(0, .ref (ad 0)), (1, .int p1), (2, .int p2), (3, .int p3)]) rfl (fun C => ?_)
  have iX7 : ∀ w ∈ wsX70, w ∈ wsX7_puts := fun w h => List.mem_cons_of_mem _ (List.mem_append_right _ (inlX7 w h))
  rw [pX7_puts]
  refine g_iload_n C 0 1 dX7_puts_0 rfl ?_
  refine g_if_ne C 1 6 dX7_puts_1 (by decide) ?_ ?_
  · skip
    refine g_aload_n C 6 0 dX7_puts_6 rfl ?_
    refine gfM_X7_state C 7 iX7 (List.mem_cons_of_mem _ (List.mem_append_right _ wgL_5_14.1)) dX7_puts_7 ?_
    refine g_iload_n C 10 2 dX7_puts_10 rfl ?_
    refine g_iald C 11 (1 + 0) 0 (wM_arr 0 (by decide)) rfl dX7_puts_11 ?_
    refine g_istoreV C 12 (fun v1 => [(4, .int v1), (0, .ref (ad 0)), (1, .int p1), (2, .int p2), (3, .int p3)]) dX7_puts_12 (by decide) (fun _ => rfl) (fun v1 => ?_)
    refine g_aload_n C 14 1 dX7_puts_14 rfl ?_
    refine gfM_X7_state C 15 iX7 (List.mem_cons_of_mem _ (List.mem_append_right _ wgL_5_14.1)) dX7_puts_15 ?_
    refine g_iload_n C 18 3 dX7_puts_18 rfl ?_
    refine g_iload_n C 19 4 dX7_puts_19 rfl ?_
    refine g_iast C 20 (1 + 0) 0 0 (wM_arr 0 (by decide)) (wM_aset 0 (by decide)) rfl dX7_puts_20 (fun u2 => ?_)
    refine g_iload C 21 0 dX7_puts_21 rfl ?_
    exact g_iret C 23 dX7_puts_23
  · skip
    refine g_iconst C 4 (-1) dX7_puts_4 rfl ?_
    exact g_iret C 5 dX7_puts_5
def pX7_trim (F : Nat) (p1 : Int32) (p2 : Int32) (p3 : Int32) (p4 : Int32) (u : St) : Option (Int32 × St) :=
  jn (fun (a1 : Int32) (u2 : St) => bd (pX7_isCase F p1 u2) (fun (r4 : Int32) (u3 : St) => if r4 = 0 then some ((-1), u3) else bd (pX7_isSide F p2 u3) (fun (r6 : Int32) (u5 : St) => if r6 = 0 then some ((-1), u5) else if a1 = 0 then some ((-1), u5) else gd (inb (24 + p1) 408) (if (u5.2 0 (Int32.toNatClampNeg (24 + p1))) = 0 then bd (pX7_puts F 1 (((8 * p3) + (2 * p1)) + p2) p4 u5) (fun (r8 : Int32) (u7 : St) => some (r8, u7)) else some ((-2), u5))))) (fun (J58 : Int32 → St → Option (Int32 × St)) => if p3 = 0 then bd (pX7_in F (Int32.toInt64 p4) 0 3 u) (fun (r15 : Int32) (u14 : St) => (J58 r15 u14)) else if p3 = 1 then bd (pX7_in F (Int32.toInt64 p4) 0 99 u) (fun (r13 : Int32) (u12 : St) => (J58 r13 u12)) else jn (fun (u9 : St) => (J58 0 u9)) (fun (J57 : St → Option (Int32 × St)) => if p3 = 2 then bd (pX7_in F (Int32.toInt64 p4) 0 9 u) (fun (r11 : Int32) (u10 : St) => if r11 = 0 then (J57 u10) else (J58 1 u10)) else (J57 u)))
set_option maxRecDepth 100000 in
set_option maxHeartbeats 4000000 in
theorem tX7_trim {l : Launch} {D : va_G} {cI cZ : ClassId} {ad : Nat → Nat} (F : Nat) (p1 : Int32) (p2 : Int32) (p3 : Int32) (p4 : Int32) (u : St) : CtI l D [(cI, .int), (cZ, .boolean)] (wM ad cI cZ) E0 yX7_trim wsX7_trim ({ frames := 2, cells := 0, slots := 0, locals := 46 } : Room) [.ref (ad 0), .int p1, .int p2, .int p3, .int p4] u (pX7_trim F p1 p2 p3 p4 u) := by
  refine ctI_of (own := RX7) (cc := cX7_trim) (n := 6) (ret := (some .int)) (by decide) rfl rfl (Nat.le_of_ble_eq_true rfl) (lv := [(0, .ref (ad 0)), (1, .int p1), (2, .int p2), (3, .int p3), (4, .int p4)]) rfl (fun C => ?_)
  have iX7 : ∀ w ∈ wsX70, w ∈ wsX7_trim := fun w h => List.mem_cons_of_mem _ (List.mem_append_right _ (inlX7 w h))
  rw [pX7_trim]
  refine g_iload_n C 0 3 dX7_trim_0 rfl ?_
  refine g_jn1 58 (fun (a1 : Int32) => [(0, .ref (ad 0)), (1, .int p1), (2, .int p2), (3, .int p3), (4, .int p4)]) (fun (a1 : Int32) => [.int a1]) (fun a1 u2 => ?_) (fun J58 hJ58 => ?_)
  · skip
    refine g_istore C 58 [(5, .int a1), (0, .ref (ad 0)), (1, .int p1), (2, .int p2), (3, .int p3), (4, .int p4)] dX7_trim_58 (by decide) rfl ?_
    refine g_aload_n C 60 1 dX7_trim_60 rfl ?_
    refine g_iload_n C 61 2 dX7_trim_61 rfl ?_
    refine g_callVi (st := []) (As := [.int p1]) C E0_ok E0_vm 62 0 1 (tX7_isCase F p1 u2) rfl gX7_trim_X7_isCase rfl rfl rfl (by decide +kernel) ⟨Nat.le_of_ble_eq_true rfl, Nat.le_of_ble_eq_true rfl⟩ rfl rfl rfl (Nat.le_of_ble_eq_true rfl) dX7_trim_62 (fun r4 u3 => ?_)
    refine g_if_eq C 65 80 dX7_trim_65 (by decide) ?_ ?_
    · skip
      refine g_iconst C 80 (-1) dX7_trim_80 rfl ?_
      exact g_iret C 81 dX7_trim_81
    · skip
      refine g_iload_n C 68 3 dX7_trim_68 rfl ?_
      refine g_callSi (st := []) (As := [.int p2]) C E0_ok E0_vm 69 1 (tX7_isSide F p2 u3) rfl gX7_trim_X7_isSide rfl rfl rfl (by decide +kernel) ⟨Nat.le_of_ble_eq_true rfl, Nat.le_of_ble_eq_true rfl⟩ rfl (Nat.le_of_ble_eq_true rfl) dX7_trim_69 (fun r6 u5 => ?_)
      refine g_if_eq C 72 80 dX7_trim_72 (by decide) ?_ ?_
      · skip
        refine g_iconst C 80 (-1) dX7_trim_80 rfl ?_
        exact g_iret C 81 dX7_trim_81
      · skip
        refine g_iload C 75 0 dX7_trim_75 rfl ?_
        refine g_if_ne C 77 82 dX7_trim_77 (by decide) ?_ ?_
        · skip
          refine g_aload_n C 82 1 dX7_trim_82 rfl ?_
          refine gfM_X7_state C 83 iX7 (List.mem_cons_of_mem _ (List.mem_append_right _ wgL_5_14.1)) dX7_trim_83 ?_
          refine g_bipush C 86 24 dX7_trim_86 rfl ?_
          refine g_iload_n C 88 2 dX7_trim_88 rfl ?_
          refine g_iadd C 89 dX7_trim_89 ?_
          refine g_iald C 90 (1 + 0) 0 (wM_arr 0 (by decide)) rfl dX7_trim_90 ?_
          refine g_if_eq C 91 99 dX7_trim_91 (by decide) ?_ ?_
          · skip
            refine g_aload_n C 99 1 dX7_trim_99 rfl ?_
            refine g_iconst C 100 1 dX7_trim_100 rfl ?_
            refine g_bipush C 101 8 dX7_trim_101 rfl ?_
            refine g_iload_n C 103 4 dX7_trim_103 rfl ?_
            refine g_imul C 104 dX7_trim_104 ?_
            refine g_iconst C 105 2 dX7_trim_105 rfl ?_
            refine g_iload_n C 106 2 dX7_trim_106 rfl ?_
            refine g_imul C 107 dX7_trim_107 ?_
            refine g_iadd C 108 dX7_trim_108 ?_
            refine g_iload_n C 109 3 dX7_trim_109 rfl ?_
            refine g_iadd C 110 dX7_trim_110 ?_
            refine g_iload C 111 5 dX7_trim_111 rfl ?_
            refine g_callVi (st := []) (As := [.int 1, .int (((8 * p3) + (2 * p1)) + p2), .int p4]) C E0_ok E0_vm 113 0 3 (tX7_puts F 1 (((8 * p3) + (2 * p1)) + p2) p4 u5) rfl gX7_trim_X7_puts rfl rfl rfl (by decide +kernel) ⟨Nat.le_of_ble_eq_true rfl, Nat.le_of_ble_eq_true rfl⟩ rfl rfl rfl (Nat.le_of_ble_eq_true rfl) dX7_trim_113 (fun r8 u7 => ?_)
            exact g_iret C 116 dX7_trim_116
          · skip
            refine g_bipush C 94 (-2) dX7_trim_94 rfl ?_
            refine g_goto C 96 116 dX7_trim_96 (by decide) ?_
            exact g_iret C 116 dX7_trim_116
        · skip
          refine g_iconst C 80 (-1) dX7_trim_80 rfl ?_
          exact g_iret C 81 dX7_trim_81
  · skip
    refine g_if_ne C 1 17 dX7_trim_1 (by decide) ?_ ?_
    · skip
      refine g_iload_n C 17 3 dX7_trim_17 rfl ?_
      refine g_iconst C 18 1 dX7_trim_18 rfl ?_
      refine g_icmp_ne C 19 35 dX7_trim_19 (by decide) ?_ ?_
      · skip
        refine g_iload_n C 35 3 dX7_trim_35 rfl ?_
        refine g_iconst C 36 2 dX7_trim_36 rfl ?_
        refine g_jn0 57 ([(0, .ref (ad 0)), (1, .int p1), (2, .int p2), (3, .int p3), (4, .int p4)]) ([]) (fun u9 => ?_) (fun J57 hJ57 => ?_)
        · skip
          refine g_iconst C 57 0 dX7_trim_57 rfl ?_
          exact g_sub _ [0, 1, 2, 3, 4] rfl (hJ58 0 u9)
        · skip
          refine g_icmp_ne C 37 57 dX7_trim_37 (by decide) ?_ ?_
          · skip
            exact g_sub _ [0, 1, 2, 3, 4] rfl (hJ57 u)
          · skip
            refine g_iload C 40 4 dX7_trim_40 rfl ?_
            refine g_i2l C 42 dX7_trim_42 ?_
            refine g_lconst C 43 0 dX7_trim_43 rfl ?_
            refine g_ldc2 C 44 9 (by decide +kernel) dX7_trim_44 ?_
            refine g_callSi (st := []) (As := [.long (Int32.toInt64 p4), .long 0, .long 9]) C E0_ok E0_vm 47 3 (tX7_in F (Int32.toInt64 p4) 0 9 u) rfl gX7_trim_X7_in rfl rfl rfl (by decide +kernel) ⟨Nat.le_of_ble_eq_true rfl, Nat.le_of_ble_eq_true rfl⟩ rfl (Nat.le_of_ble_eq_true rfl) dX7_trim_47 (fun r11 u10 => ?_)
            refine g_if_eq C 50 57 dX7_trim_50 (by decide) ?_ ?_
            · skip
              exact g_sub _ [0, 1, 2, 3, 4] rfl (hJ57 u10)
            · skip
              refine g_iconst C 53 1 dX7_trim_53 rfl ?_
              refine g_goto C 54 58 dX7_trim_54 (by decide) ?_
              exact g_sub _ [0, 1, 2, 3, 4] rfl (hJ58 1 u10)
      · skip
        refine g_iload C 22 4 dX7_trim_22 rfl ?_
        refine g_i2l C 24 dX7_trim_24 ?_
        refine g_lconst C 25 0 dX7_trim_25 rfl ?_
        refine g_ldc2 C 26 99 (by decide +kernel) dX7_trim_26 ?_
        refine g_callSi (st := []) (As := [.long (Int32.toInt64 p4), .long 0, .long 99]) C E0_ok E0_vm 29 3 (tX7_in F (Int32.toInt64 p4) 0 99 u) rfl gX7_trim_X7_in rfl rfl rfl (by decide +kernel) ⟨Nat.le_of_ble_eq_true rfl, Nat.le_of_ble_eq_true rfl⟩ rfl (Nat.le_of_ble_eq_true rfl) dX7_trim_29 (fun r13 u12 => ?_)
        refine g_goto C 32 58 dX7_trim_32 (by decide) ?_
        exact g_sub _ [0, 1, 2, 3, 4] rfl (hJ58 r13 u12)
    · skip
      refine g_iload C 4 4 dX7_trim_4 rfl ?_
      refine g_i2l C 6 dX7_trim_6 ?_
      refine g_lconst C 7 0 dX7_trim_7 rfl ?_
      refine g_ldc2 C 8 3 (by decide +kernel) dX7_trim_8 ?_
      refine g_callSi (st := []) (As := [.long (Int32.toInt64 p4), .long 0, .long 3]) C E0_ok E0_vm 11 3 (tX7_in F (Int32.toInt64 p4) 0 3 u) rfl gX7_trim_X7_in rfl rfl rfl (by decide +kernel) ⟨Nat.le_of_ble_eq_true rfl, Nat.le_of_ble_eq_true rfl⟩ rfl (Nat.le_of_ble_eq_true rfl) dX7_trim_11 (fun r15 u14 => ?_)
      refine g_goto C 14 58 dX7_trim_14 (by decide) ?_
      exact g_sub _ [0, 1, 2, 3, 4] rfl (hJ58 r15 u14)
def pX7_train (F : Nat) (p1 : Int32) (p2 : Int32) (p3 : Int32) (u : St) : Option (Int32 × St) :=
  bd (pX7_isJudge F p1 u) (fun (r2 : Int32) (u1 : St) => jn (fun (a3 : Int32) (u4 : St) => bd (pX7_puts F a3 ((40 + (3 * p2)) + p1) p3 u4) (fun (r6 : Int32) (u5 : St) => some (r6, u5))) (fun (J47 : Int32 → St → Option (Int32 × St)) => jn (fun (u7 : St) => (J47 0 u7)) (fun (J46 : St → Option (Int32 × St)) => if r2 = 0 then (J46 u1) else jn (fun (u8 : St) => (J47 1 u8)) (fun (J42 : St → Option (Int32 × St)) => jn (fun (u9 : St) => if p2 = 1 then bd (pX7_in F (Int32.toInt64 p3) 1 9 u9) (fun (r11 : Int32) (u10 : St) => if r11 = 0 then (J46 u10) else (J42 u10)) else (J46 u9)) (fun (J25 : St → Option (Int32 × St)) => if p2 = 0 then bd (pX7_in F (Int32.toInt64 p3) 0 3 u1) (fun (r13 : Int32) (u12 : St) => if r13 = 0 then (J25 u12) else (J42 u12)) else (J25 u1))))))
set_option maxRecDepth 100000 in
set_option maxHeartbeats 4000000 in
theorem tX7_train {l : Launch} {D : va_G} {cI cZ : ClassId} {ad : Nat → Nat} (F : Nat) (p1 : Int32) (p2 : Int32) (p3 : Int32) (u : St) : CtI l D [(cI, .int), (cZ, .boolean)] (wM ad cI cZ) E0 yX7_train wsX7_train ({ frames := 2, cells := 0, slots := 0, locals := 46 } : Room) [.ref (ad 0), .int p1, .int p2, .int p3] u (pX7_train F p1 p2 p3 u) := by
  refine ctI_of (own := RX7) (cc := cX7_train) (n := 4) (ret := (some .int)) (by decide) rfl rfl (Nat.le_of_ble_eq_true rfl) (lv := [(0, .ref (ad 0)), (1, .int p1), (2, .int p2), (3, .int p3)]) rfl (fun C => ?_)
  rw [pX7_train]
  refine g_aload_n C 0 0 dX7_train_0 rfl ?_
  refine g_aload_n C 1 0 dX7_train_1 rfl ?_
  refine g_iload_n C 2 1 dX7_train_2 rfl ?_
  refine g_callVi (st := [.ref (ad 0)]) (As := [.int p1]) C E0_ok E0_vm 3 0 1 (tX7_isJudge F p1 u) rfl gX7_train_X7_isJudge rfl rfl rfl (by decide +kernel) ⟨Nat.le_of_ble_eq_true rfl, Nat.le_of_ble_eq_true rfl⟩ rfl rfl rfl (Nat.le_of_ble_eq_true rfl) dX7_train_3 (fun r2 u1 => ?_)
  refine g_jn1 47 (fun (a3 : Int32) => [(1, .int p1), (2, .int p2), (3, .int p3)]) (fun (a3 : Int32) => [.int a3, .ref (ad 0)]) (fun a3 u4 => ?_) (fun J47 hJ47 => ?_)
  · skip
    refine g_bipush C 47 40 dX7_train_47 rfl ?_
    refine g_iconst C 49 3 dX7_train_49 rfl ?_
    refine g_iload_n C 50 1 dX7_train_50 rfl ?_
    refine g_imul C 51 dX7_train_51 ?_
    refine g_iadd C 52 dX7_train_52 ?_
    refine g_iload_n C 53 0 dX7_train_53 rfl ?_
    refine g_iadd C 54 dX7_train_54 ?_
    refine g_iload_n C 55 2 dX7_train_55 rfl ?_
    refine g_callVi (st := []) (As := [.int a3, .int ((40 + (3 * p2)) + p1), .int p3]) C E0_ok E0_vm 56 0 3 (tX7_puts F a3 ((40 + (3 * p2)) + p1) p3 u4) rfl gX7_train_X7_puts rfl rfl rfl (by decide +kernel) ⟨Nat.le_of_ble_eq_true rfl, Nat.le_of_ble_eq_true rfl⟩ rfl rfl rfl (Nat.le_of_ble_eq_true rfl) dX7_train_56 (fun r6 u5 => ?_)
    exact g_iret C 59 dX7_train_59
  · skip
    refine g_jn0 46 ([(1, .int p1), (2, .int p2), (3, .int p3)]) ([.ref (ad 0)]) (fun u7 => ?_) (fun J46 hJ46 => ?_)
    · skip
      refine g_iconst C 46 0 dX7_train_46 rfl ?_
      exact g_sub _ [0, 1, 2] rfl (hJ47 0 u7)
    · skip
      refine g_if_eq C 6 46 dX7_train_6 (by decide) ?_ ?_
      · skip
        exact g_sub _ [1, 2, 3] rfl (hJ46 u1)
      · skip
        refine g_iload_n C 9 2 dX7_train_9 rfl ?_
        refine g_jn0 42 ([(1, .int p1), (2, .int p2), (3, .int p3)]) ([.ref (ad 0)]) (fun u8 => ?_) (fun J42 hJ42 => ?_)
        · skip
          refine g_iconst C 42 1 dX7_train_42 rfl ?_
          refine g_goto C 43 47 dX7_train_43 (by decide) ?_
          exact g_sub _ [0, 1, 2] rfl (hJ47 1 u8)
        · skip
          refine g_jn0 25 ([(1, .int p1), (2, .int p2), (3, .int p3)]) ([.ref (ad 0)]) (fun u9 => ?_) (fun J25 hJ25 => ?_)
          · skip
            refine g_iload_n C 25 1 dX7_train_25 rfl ?_
            refine g_iconst C 26 1 dX7_train_26 rfl ?_
            refine g_icmp_ne C 27 46 dX7_train_27 (by decide) ?_ ?_
            · skip
              exact g_sub _ [0, 1, 2] rfl (hJ46 u9)
            · skip
              refine g_iload_n C 30 2 dX7_train_30 rfl ?_
              refine g_i2l C 31 dX7_train_31 ?_
              refine g_lconst C 32 1 dX7_train_32 rfl ?_
              refine g_ldc2 C 33 9 (by decide +kernel) dX7_train_33 ?_
              refine g_callSi (st := [.ref (ad 0)]) (As := [.long (Int32.toInt64 p3), .long 1, .long 9]) C E0_ok E0_vm 36 3 (tX7_in F (Int32.toInt64 p3) 1 9 u9) rfl gX7_train_X7_in rfl rfl rfl (by decide +kernel) ⟨Nat.le_of_ble_eq_true rfl, Nat.le_of_ble_eq_true rfl⟩ rfl (Nat.le_of_ble_eq_true rfl) dX7_train_36 (fun r11 u10 => ?_)
              refine g_if_eq C 39 46 dX7_train_39 (by decide) ?_ ?_
              · skip
                exact g_sub _ [0, 1, 2] rfl (hJ46 u10)
              · skip
                exact g_sub _ [0, 1, 2] rfl (hJ42 u10)
          · skip
            refine g_if_ne C 10 25 dX7_train_10 (by decide) ?_ ?_
            · skip
              exact g_sub _ [1, 2, 3] rfl (hJ25 u1)
            · skip
              refine g_iload_n C 13 3 dX7_train_13 rfl ?_
              refine g_i2l C 14 dX7_train_14 ?_
              refine g_lconst C 15 0 dX7_train_15 rfl ?_
              refine g_ldc2 C 16 3 (by decide +kernel) dX7_train_16 ?_
              refine g_callSi (st := [.ref (ad 0)]) (As := [.long (Int32.toInt64 p3), .long 0, .long 3]) C E0_ok E0_vm 19 3 (tX7_in F (Int32.toInt64 p3) 0 3 u1) rfl gX7_train_X7_in rfl rfl rfl (by decide +kernel) ⟨Nat.le_of_ble_eq_true rfl, Nat.le_of_ble_eq_true rfl⟩ rfl (Nat.le_of_ble_eq_true rfl) dX7_train_19 (fun r13 u12 => ?_)
              refine g_if_ne C 22 42 dX7_train_22 (by decide) ?_ ?_
              · skip
                exact g_sub _ [1, 2, 3] rfl (hJ42 u12)
              · skip
                exact g_sub _ [1, 2, 3] rfl (hJ25 u12)
def pX7_blow (F : Nat) (p1 : Int32) (p2 : Int32) (u : St) : Option (Int32 × St) :=
  bd (pX7_in F (Int32.toInt64 p1) 0 20 u) (fun (r2 : Int32) (u1 : St) => if r2 = 0 then some ((-1), u1) else bd (pX7_in F (Int32.toInt64 p2) 1 9 u1) (fun (r4 : Int32) (u3 : St) => if r4 = 0 then some ((-1), u3) else gd (inb 46 408) (if (u3.2 0 (Int32.toNatClampNeg 46)) = 4 then some ((-3), u3) else gd (inb 46 408) (gd (inb (47 + (u3.2 0 (Int32.toNatClampNeg 46))) 408) (vl (sta u3 0 (47 + (u3.2 0 (Int32.toNatClampNeg 46))) p1) (fun (u5 : St) => gd (inb 46 408) (gd (inb (51 + (u5.2 0 (Int32.toNatClampNeg 46))) 408) (vl (sta u5 0 (51 + (u5.2 0 (Int32.toNatClampNeg 46))) p2) (fun (u6 : St) => gd (inb 46 408) (gd (inb 46 408) (vl (sta u6 0 46 ((u6.2 0 (Int32.toNatClampNeg 46)) + 1)) (fun (u7 : St) => gd (inb 46 408) (some ((u7.2 0 (Int32.toNatClampNeg 46)), u7))))))))))))))
set_option maxRecDepth 100000 in
set_option maxHeartbeats 4000000 in
theorem tX7_blow {l : Launch} {D : va_G} {cI cZ : ClassId} {ad : Nat → Nat} (F : Nat) (p1 : Int32) (p2 : Int32) (u : St) : CtI l D [(cI, .int), (cZ, .boolean)] (wM ad cI cZ) E0 yX7_blow wsX7_blow ({ frames := 1, cells := 0, slots := 0, locals := 25 } : Room) [.ref (ad 0), .int p1, .int p2] u (pX7_blow F p1 p2 u) := by
  refine ctI_of (own := RX7) (cc := cX7_blow) (n := 3) (ret := (some .int)) (by decide) rfl rfl (Nat.le_of_ble_eq_true rfl) (lv := [(0, .ref (ad 0)), (1, .int p1), (2, .int p2)]) rfl (fun C => ?_)
  have iX7 : ∀ w ∈ wsX70, w ∈ wsX7_blow := fun w h => List.mem_cons_of_mem _ (List.mem_append_right _ (inlX7 w h))
  rw [pX7_blow]
  refine g_iload_n C 0 1 dX7_blow_0 rfl ?_
  refine g_i2l C 1 dX7_blow_1 ?_
  refine g_lconst C 2 0 dX7_blow_2 rfl ?_
  refine g_ldc2 C 3 20 (by decide +kernel) dX7_blow_3 ?_
  refine g_callSi (st := []) (As := [.long (Int32.toInt64 p1), .long 0, .long 20]) C E0_ok E0_vm 6 3 (tX7_in F (Int32.toInt64 p1) 0 20 u) rfl gX7_blow_X7_in rfl rfl rfl (by decide +kernel) ⟨Nat.le_of_ble_eq_true rfl, Nat.le_of_ble_eq_true rfl⟩ rfl (Nat.le_of_ble_eq_true rfl) dX7_blow_6 (fun r2 u1 => ?_)
  refine g_if_eq C 9 24 dX7_blow_9 (by decide) ?_ ?_
  · skip
    refine g_iconst C 24 (-1) dX7_blow_24 rfl ?_
    exact g_iret C 25 dX7_blow_25
  · skip
    refine g_iload_n C 12 2 dX7_blow_12 rfl ?_
    refine g_i2l C 13 dX7_blow_13 ?_
    refine g_lconst C 14 1 dX7_blow_14 rfl ?_
    refine g_ldc2 C 15 9 (by decide +kernel) dX7_blow_15 ?_
    refine g_callSi (st := []) (As := [.long (Int32.toInt64 p2), .long 1, .long 9]) C E0_ok E0_vm 18 3 (tX7_in F (Int32.toInt64 p2) 1 9 u1) rfl gX7_blow_X7_in rfl rfl rfl (by decide +kernel) ⟨Nat.le_of_ble_eq_true rfl, Nat.le_of_ble_eq_true rfl⟩ rfl (Nat.le_of_ble_eq_true rfl) dX7_blow_18 (fun r4 u3 => ?_)
    refine g_if_ne C 21 26 dX7_blow_21 (by decide) ?_ ?_
    · skip
      refine g_aload_n C 26 0 dX7_blow_26 rfl ?_
      refine gfM_X7_state C 27 iX7 (List.mem_cons_of_mem _ (List.mem_append_right _ wgL_5_14.1)) dX7_blow_27 ?_
      refine g_bipush C 30 46 dX7_blow_30 rfl ?_
      refine g_iald C 32 (1 + 0) 0 (wM_arr 0 (by decide)) rfl dX7_blow_32 ?_
      refine g_iconst C 33 4 dX7_blow_33 rfl ?_
      refine g_icmp_ne C 34 40 dX7_blow_34 (by decide) ?_ ?_
      · skip
        refine g_aload_n C 40 0 dX7_blow_40 rfl ?_
        refine gfM_X7_state C 41 iX7 (List.mem_cons_of_mem _ (List.mem_append_right _ wgL_5_14.1)) dX7_blow_41 ?_
        refine g_bipush C 44 47 dX7_blow_44 rfl ?_
        refine g_aload_n C 46 0 dX7_blow_46 rfl ?_
        refine gfM_X7_state C 47 iX7 (List.mem_cons_of_mem _ (List.mem_append_right _ wgL_5_14.1)) dX7_blow_47 ?_
        refine g_bipush C 50 46 dX7_blow_50 rfl ?_
        refine g_iald C 52 (1 + 0) 0 (wM_arr 0 (by decide)) rfl dX7_blow_52 ?_
        refine g_iadd C 53 dX7_blow_53 ?_
        refine g_iload_n C 54 1 dX7_blow_54 rfl ?_
        refine g_iast C 55 (1 + 0) 0 0 (wM_arr 0 (by decide)) (wM_aset 0 (by decide)) rfl dX7_blow_55 (fun u5 => ?_)
        refine g_aload_n C 56 0 dX7_blow_56 rfl ?_
        refine gfM_X7_state C 57 iX7 (List.mem_cons_of_mem _ (List.mem_append_right _ wgL_5_14.1)) dX7_blow_57 ?_
        refine g_bipush C 60 51 dX7_blow_60 rfl ?_
        refine g_aload_n C 62 0 dX7_blow_62 rfl ?_
        refine gfM_X7_state C 63 iX7 (List.mem_cons_of_mem _ (List.mem_append_right _ wgL_5_14.1)) dX7_blow_63 ?_
        refine g_bipush C 66 46 dX7_blow_66 rfl ?_
        refine g_iald C 68 (1 + 0) 0 (wM_arr 0 (by decide)) rfl dX7_blow_68 ?_
        refine g_iadd C 69 dX7_blow_69 ?_
        refine g_iload_n C 70 2 dX7_blow_70 rfl ?_
        refine g_iast C 71 (1 + 0) 0 0 (wM_arr 0 (by decide)) (wM_aset 0 (by decide)) rfl dX7_blow_71 (fun u6 => ?_)
        refine g_aload_n C 72 0 dX7_blow_72 rfl ?_
        refine gfM_X7_state C 73 iX7 (List.mem_cons_of_mem _ (List.mem_append_right _ wgL_5_14.1)) dX7_blow_73 ?_
        refine g_bipush C 76 46 dX7_blow_76 rfl ?_
        refine g_dup2 C 78 dX7_blow_78 rfl rfl ?_
        refine g_iald C 79 (1 + 0) 0 (wM_arr 0 (by decide)) rfl dX7_blow_79 ?_
        refine g_iconst C 80 1 dX7_blow_80 rfl ?_
        refine g_iadd C 81 dX7_blow_81 ?_
        refine g_iast C 82 (1 + 0) 0 0 (wM_arr 0 (by decide)) (wM_aset 0 (by decide)) rfl dX7_blow_82 (fun u7 => ?_)
        refine g_aload_n C 83 0 dX7_blow_83 rfl ?_
        refine gfM_X7_state C 84 iX7 (List.mem_cons_of_mem _ (List.mem_append_right _ wgL_5_14.1)) dX7_blow_84 ?_
        refine g_bipush C 87 46 dX7_blow_87 rfl ?_
        refine g_iald C 89 (1 + 0) 0 (wM_arr 0 (by decide)) rfl dX7_blow_89 ?_
        exact g_iret C 90 dX7_blow_90
      · skip
        refine g_bipush C 37 (-3) dX7_blow_37 rfl ?_
        exact g_iret C 39 dX7_blow_39
    · skip
      refine g_iconst C 24 (-1) dX7_blow_24 rfl ?_
      exact g_iret C 25 dX7_blow_25
def pX7_calm (F : Nat) (p1 : Int32) (u : St) : Option (Int32 × St) :=
  gd (inb 46 408) (bd (pX7_in F (Int32.toInt64 p1) 0 (Int32.toInt64 (u.2 0 (Int32.toNatClampNeg 46))) u) (fun (r2 : Int32) (u1 : St) => bd (pX7_puts F r2 46 p1 u1) (fun (r4 : Int32) (u3 : St) => some (r4, u3))))
set_option maxRecDepth 100000 in
set_option maxHeartbeats 4000000 in
theorem tX7_calm {l : Launch} {D : va_G} {cI cZ : ClassId} {ad : Nat → Nat} (F : Nat) (p1 : Int32) (u : St) : CtI l D [(cI, .int), (cZ, .boolean)] (wM ad cI cZ) E0 yX7_calm wsX7_calm ({ frames := 1, cells := 0, slots := 0, locals := 25 } : Room) [.ref (ad 0), .int p1] u (pX7_calm F p1 u) := by
  refine ctI_of (own := RX7) (cc := cX7_calm) (n := 2) (ret := (some .int)) (by decide) rfl rfl (Nat.le_of_ble_eq_true rfl) (lv := [(0, .ref (ad 0)), (1, .int p1)]) rfl (fun C => ?_)
  have iX7 : ∀ w ∈ wsX70, w ∈ wsX7_calm := fun w h => List.mem_cons_of_mem _ (List.mem_append_right _ (inlX7 w h))
  rw [pX7_calm]
  refine g_aload_n C 0 0 dX7_calm_0 rfl ?_
  refine g_iload_n C 1 1 dX7_calm_1 rfl ?_
  refine g_i2l C 2 dX7_calm_2 ?_
  refine g_lconst C 3 0 dX7_calm_3 rfl ?_
  refine g_aload_n C 4 0 dX7_calm_4 rfl ?_
  refine gfM_X7_state C 5 iX7 (List.mem_cons_of_mem _ (List.mem_append_right _ wgL_5_14.1)) dX7_calm_5 ?_
  refine g_bipush C 8 46 dX7_calm_8 rfl ?_
  refine g_iald C 10 (1 + 0) 0 (wM_arr 0 (by decide)) rfl dX7_calm_10 ?_
  refine g_i2l C 11 dX7_calm_11 ?_
  refine g_callSi (st := [.ref (ad 0)]) (As := [.long (Int32.toInt64 p1), .long 0, .long (Int32.toInt64 (u.2 0 (Int32.toNatClampNeg 46)))]) C E0_ok E0_vm 12 3 (tX7_in F (Int32.toInt64 p1) 0 (Int32.toInt64 (u.2 0 (Int32.toNatClampNeg 46))) u) rfl gX7_calm_X7_in rfl rfl rfl (by decide +kernel) ⟨Nat.le_of_ble_eq_true rfl, Nat.le_of_ble_eq_true rfl⟩ rfl (Nat.le_of_ble_eq_true rfl) dX7_calm_12 (fun r2 u1 => ?_)
  refine g_bipush C 15 46 dX7_calm_15 rfl ?_
  refine g_iload_n C 17 1 dX7_calm_17 rfl ?_
  refine g_callVi (st := []) (As := [.int r2, .int 46, .int p1]) C E0_ok E0_vm 18 0 3 (tX7_puts F r2 46 p1 u1) rfl gX7_calm_X7_puts rfl rfl rfl (by decide +kernel) ⟨Nat.le_of_ble_eq_true rfl, Nat.le_of_ble_eq_true rfl⟩ rfl rfl rfl (Nat.le_of_ble_eq_true rfl) dX7_calm_18 (fun r4 u3 => ?_)
  exact g_iret C 21 dX7_calm_21
def pX7_plan (F : Nat) (p1 : Int32) (p2 : Int32) (u : St) : Option (Int32 × St) :=
  bd (pX7_isCase F p1 u) (fun (r2 : Int32) (u1 : St) => if r2 = 0 then some ((-1), u1) else bd (pX7_isJudge F p2 u1) (fun (r4 : Int32) (u3 : St) => if r4 = 0 then some ((-1), u3) else gd (inb 55 408) (if (u3.2 0 (Int32.toNatClampNeg 55)) = 6 then some ((-3), u3) else gd (inb 55 408) (gd (inb (56 + (u3.2 0 (Int32.toNatClampNeg 55))) 408) (vl (sta u3 0 (56 + (u3.2 0 (Int32.toNatClampNeg 55))) p1) (fun (u5 : St) => gd (inb 55 408) (gd (inb (62 + (u5.2 0 (Int32.toNatClampNeg 55))) 408) (vl (sta u5 0 (62 + (u5.2 0 (Int32.toNatClampNeg 55))) p2) (fun (u6 : St) => gd (inb 55 408) (gd (inb 55 408) (vl (sta u6 0 55 ((u6.2 0 (Int32.toNatClampNeg 55)) + 1)) (fun (u7 : St) => gd (inb 55 408) (some ((u7.2 0 (Int32.toNatClampNeg 55)), u7))))))))))))))
set_option maxRecDepth 100000 in
set_option maxHeartbeats 4000000 in
theorem tX7_plan {l : Launch} {D : va_G} {cI cZ : ClassId} {ad : Nat → Nat} (F : Nat) (p1 : Int32) (p2 : Int32) (u : St) : CtI l D [(cI, .int), (cZ, .boolean)] (wM ad cI cZ) E0 yX7_plan wsX7_plan ({ frames := 2, cells := 0, slots := 0, locals := 46 } : Room) [.ref (ad 0), .int p1, .int p2] u (pX7_plan F p1 p2 u) := by
  refine ctI_of (own := RX7) (cc := cX7_plan) (n := 3) (ret := (some .int)) (by decide) rfl rfl (Nat.le_of_ble_eq_true rfl) (lv := [(0, .ref (ad 0)), (1, .int p1), (2, .int p2)]) rfl (fun C => ?_)
  have iX7 : ∀ w ∈ wsX70, w ∈ wsX7_plan := fun w h => List.mem_cons_of_mem _ (List.mem_append_right _ (inlX7 w h))
  rw [pX7_plan]
  refine g_aload_n C 0 0 dX7_plan_0 rfl ?_
  refine g_iload_n C 1 1 dX7_plan_1 rfl ?_
  refine g_callVi (st := []) (As := [.int p1]) C E0_ok E0_vm 2 0 1 (tX7_isCase F p1 u) rfl gX7_plan_X7_isCase rfl rfl rfl (by decide +kernel) ⟨Nat.le_of_ble_eq_true rfl, Nat.le_of_ble_eq_true rfl⟩ rfl rfl rfl (Nat.le_of_ble_eq_true rfl) dX7_plan_2 (fun r2 u1 => ?_)
  refine g_if_eq C 5 16 dX7_plan_5 (by decide) ?_ ?_
  · skip
    refine g_iconst C 16 (-1) dX7_plan_16 rfl ?_
    exact g_iret C 17 dX7_plan_17
  · skip
    refine g_aload_n C 8 0 dX7_plan_8 rfl ?_
    refine g_iload_n C 9 2 dX7_plan_9 rfl ?_
    refine g_callVi (st := []) (As := [.int p2]) C E0_ok E0_vm 10 0 1 (tX7_isJudge F p2 u1) rfl gX7_plan_X7_isJudge rfl rfl rfl (by decide +kernel) ⟨Nat.le_of_ble_eq_true rfl, Nat.le_of_ble_eq_true rfl⟩ rfl rfl rfl (Nat.le_of_ble_eq_true rfl) dX7_plan_10 (fun r4 u3 => ?_)
    refine g_if_ne C 13 18 dX7_plan_13 (by decide) ?_ ?_
    · skip
      refine g_aload_n C 18 0 dX7_plan_18 rfl ?_
      refine gfM_X7_state C 19 iX7 (List.mem_cons_of_mem _ (List.mem_append_right _ wgL_5_14.1)) dX7_plan_19 ?_
      refine g_bipush C 22 55 dX7_plan_22 rfl ?_
      refine g_iald C 24 (1 + 0) 0 (wM_arr 0 (by decide)) rfl dX7_plan_24 ?_
      refine g_bipush C 25 6 dX7_plan_25 rfl ?_
      refine g_icmp_ne C 27 33 dX7_plan_27 (by decide) ?_ ?_
      · skip
        refine g_aload_n C 33 0 dX7_plan_33 rfl ?_
        refine gfM_X7_state C 34 iX7 (List.mem_cons_of_mem _ (List.mem_append_right _ wgL_5_14.1)) dX7_plan_34 ?_
        refine g_bipush C 37 56 dX7_plan_37 rfl ?_
        refine g_aload_n C 39 0 dX7_plan_39 rfl ?_
        refine gfM_X7_state C 40 iX7 (List.mem_cons_of_mem _ (List.mem_append_right _ wgL_5_14.1)) dX7_plan_40 ?_
        refine g_bipush C 43 55 dX7_plan_43 rfl ?_
        refine g_iald C 45 (1 + 0) 0 (wM_arr 0 (by decide)) rfl dX7_plan_45 ?_
        refine g_iadd C 46 dX7_plan_46 ?_
        refine g_iload_n C 47 1 dX7_plan_47 rfl ?_
        refine g_iast C 48 (1 + 0) 0 0 (wM_arr 0 (by decide)) (wM_aset 0 (by decide)) rfl dX7_plan_48 (fun u5 => ?_)
        refine g_aload_n C 49 0 dX7_plan_49 rfl ?_
        refine gfM_X7_state C 50 iX7 (List.mem_cons_of_mem _ (List.mem_append_right _ wgL_5_14.1)) dX7_plan_50 ?_
        refine g_bipush C 53 62 dX7_plan_53 rfl ?_
        refine g_aload_n C 55 0 dX7_plan_55 rfl ?_
        refine gfM_X7_state C 56 iX7 (List.mem_cons_of_mem _ (List.mem_append_right _ wgL_5_14.1)) dX7_plan_56 ?_
        refine g_bipush C 59 55 dX7_plan_59 rfl ?_
        refine g_iald C 61 (1 + 0) 0 (wM_arr 0 (by decide)) rfl dX7_plan_61 ?_
        refine g_iadd C 62 dX7_plan_62 ?_
        refine g_iload_n C 63 2 dX7_plan_63 rfl ?_
        refine g_iast C 64 (1 + 0) 0 0 (wM_arr 0 (by decide)) (wM_aset 0 (by decide)) rfl dX7_plan_64 (fun u6 => ?_)
        refine g_aload_n C 65 0 dX7_plan_65 rfl ?_
        refine gfM_X7_state C 66 iX7 (List.mem_cons_of_mem _ (List.mem_append_right _ wgL_5_14.1)) dX7_plan_66 ?_
        refine g_bipush C 69 55 dX7_plan_69 rfl ?_
        refine g_dup2 C 71 dX7_plan_71 rfl rfl ?_
        refine g_iald C 72 (1 + 0) 0 (wM_arr 0 (by decide)) rfl dX7_plan_72 ?_
        refine g_iconst C 73 1 dX7_plan_73 rfl ?_
        refine g_iadd C 74 dX7_plan_74 ?_
        refine g_iast C 75 (1 + 0) 0 0 (wM_arr 0 (by decide)) (wM_aset 0 (by decide)) rfl dX7_plan_75 (fun u7 => ?_)
        refine g_aload_n C 76 0 dX7_plan_76 rfl ?_
        refine gfM_X7_state C 77 iX7 (List.mem_cons_of_mem _ (List.mem_append_right _ wgL_5_14.1)) dX7_plan_77 ?_
        refine g_bipush C 80 55 dX7_plan_80 rfl ?_
        refine g_iald C 82 (1 + 0) 0 (wM_arr 0 (by decide)) rfl dX7_plan_82 ?_
        exact g_iret C 83 dX7_plan_83
      · skip
        refine g_bipush C 30 (-3) dX7_plan_30 rfl ?_
        exact g_iret C 32 dX7_plan_32
    · skip
      refine g_iconst C 16 (-1) dX7_plan_16 rfl ?_
      exact g_iret C 17 dX7_plan_17
def pX7_cut (F : Nat) (p1 : Int32) (u : St) : Option (Int32 × St) :=
  gd (inb 55 408) (bd (pX7_in F (Int32.toInt64 p1) 0 (Int32.toInt64 (u.2 0 (Int32.toNatClampNeg 55))) u) (fun (r2 : Int32) (u1 : St) => bd (pX7_puts F r2 55 p1 u1) (fun (r4 : Int32) (u3 : St) => some (r4, u3))))
set_option maxRecDepth 100000 in
set_option maxHeartbeats 4000000 in
theorem tX7_cut {l : Launch} {D : va_G} {cI cZ : ClassId} {ad : Nat → Nat} (F : Nat) (p1 : Int32) (u : St) : CtI l D [(cI, .int), (cZ, .boolean)] (wM ad cI cZ) E0 yX7_cut wsX7_cut ({ frames := 1, cells := 0, slots := 0, locals := 25 } : Room) [.ref (ad 0), .int p1] u (pX7_cut F p1 u) := by
  refine ctI_of (own := RX7) (cc := cX7_cut) (n := 2) (ret := (some .int)) (by decide) rfl rfl (Nat.le_of_ble_eq_true rfl) (lv := [(0, .ref (ad 0)), (1, .int p1)]) rfl (fun C => ?_)
  have iX7 : ∀ w ∈ wsX70, w ∈ wsX7_cut := fun w h => List.mem_cons_of_mem _ (List.mem_append_right _ (inlX7 w h))
  rw [pX7_cut]
  refine g_aload_n C 0 0 dX7_cut_0 rfl ?_
  refine g_iload_n C 1 1 dX7_cut_1 rfl ?_
  refine g_i2l C 2 dX7_cut_2 ?_
  refine g_lconst C 3 0 dX7_cut_3 rfl ?_
  refine g_aload_n C 4 0 dX7_cut_4 rfl ?_
  refine gfM_X7_state C 5 iX7 (List.mem_cons_of_mem _ (List.mem_append_right _ wgL_5_14.1)) dX7_cut_5 ?_
  refine g_bipush C 8 55 dX7_cut_8 rfl ?_
  refine g_iald C 10 (1 + 0) 0 (wM_arr 0 (by decide)) rfl dX7_cut_10 ?_
  refine g_i2l C 11 dX7_cut_11 ?_
  refine g_callSi (st := [.ref (ad 0)]) (As := [.long (Int32.toInt64 p1), .long 0, .long (Int32.toInt64 (u.2 0 (Int32.toNatClampNeg 55)))]) C E0_ok E0_vm 12 3 (tX7_in F (Int32.toInt64 p1) 0 (Int32.toInt64 (u.2 0 (Int32.toNatClampNeg 55))) u) rfl gX7_cut_X7_in rfl rfl rfl (by decide +kernel) ⟨Nat.le_of_ble_eq_true rfl, Nat.le_of_ble_eq_true rfl⟩ rfl (Nat.le_of_ble_eq_true rfl) dX7_cut_12 (fun r2 u1 => ?_)
  refine g_bipush C 15 55 dX7_cut_15 rfl ?_
  refine g_iload_n C 17 1 dX7_cut_17 rfl ?_
  refine g_callVi (st := []) (As := [.int r2, .int 55, .int p1]) C E0_ok E0_vm 18 0 3 (tX7_puts F r2 55 p1 u1) rfl gX7_cut_X7_puts rfl rfl rfl (by decide +kernel) ⟨Nat.le_of_ble_eq_true rfl, Nat.le_of_ble_eq_true rfl⟩ rfl rfl rfl (Nat.le_of_ble_eq_true rfl) dX7_cut_18 (fun r4 u3 => ?_)
  exact g_iret C 21 dX7_cut_21
def pX7_isHeard (F : Nat) (p1 : Int32) (p2 : Int32) (u : St) : Option (Int32 × St) :=
  bd (pX7_isCase F p1 u) (fun (r2 : Int32) (u1 : St) => if r2 = 0 then some (0, u1) else bd (pX7_isJudge F p2 u1) (fun (r4 : Int32) (u3 : St) => if r4 = 0 then some (0, u3) else some (1, u3)))
set_option maxRecDepth 100000 in
set_option maxHeartbeats 4000000 in
theorem tX7_isHeard {l : Launch} {D : va_G} {cI cZ : ClassId} {ad : Nat → Nat} (F : Nat) (p1 : Int32) (p2 : Int32) (u : St) : CtI l D [(cI, .int), (cZ, .boolean)] (wM ad cI cZ) E0 yX7_isHeard wsX7_isHeard ({ frames := 2, cells := 0, slots := 0, locals := 46 } : Room) [.ref (ad 0), .int p1, .int p2] u (pX7_isHeard F p1 p2 u) := by
  refine ctI_of (own := RX7) (cc := cX7_isHeard) (n := 3) (ret := (some .boolean)) (by decide) rfl rfl (Nat.le_of_ble_eq_true rfl) (lv := [(0, .ref (ad 0)), (1, .int p1), (2, .int p2)]) rfl (fun C => ?_)
  rw [pX7_isHeard]
  refine g_aload_n C 0 0 dX7_isHeard_0 rfl ?_
  refine g_iload_n C 1 1 dX7_isHeard_1 rfl ?_
  refine g_callVi (st := []) (As := [.int p1]) C E0_ok E0_vm 2 0 1 (tX7_isCase F p1 u) rfl gX7_isHeard_X7_isCase rfl rfl rfl (by decide +kernel) ⟨Nat.le_of_ble_eq_true rfl, Nat.le_of_ble_eq_true rfl⟩ rfl rfl rfl (Nat.le_of_ble_eq_true rfl) dX7_isHeard_2 (fun r2 u1 => ?_)
  refine g_if_eq C 5 20 dX7_isHeard_5 (by decide) ?_ ?_
  · skip
    refine g_iconst C 20 0 dX7_isHeard_20 rfl ?_
    exact g_nret C 21 rfl dX7_isHeard_21
  · skip
    refine g_aload_n C 8 0 dX7_isHeard_8 rfl ?_
    refine g_iload_n C 9 2 dX7_isHeard_9 rfl ?_
    refine g_callVi (st := []) (As := [.int p2]) C E0_ok E0_vm 10 0 1 (tX7_isJudge F p2 u1) rfl gX7_isHeard_X7_isJudge rfl rfl rfl (by decide +kernel) ⟨Nat.le_of_ble_eq_true rfl, Nat.le_of_ble_eq_true rfl⟩ rfl rfl rfl (Nat.le_of_ble_eq_true rfl) dX7_isHeard_10 (fun r4 u3 => ?_)
    refine g_if_eq C 13 20 dX7_isHeard_13 (by decide) ?_ ?_
    · skip
      refine g_iconst C 20 0 dX7_isHeard_20 rfl ?_
      exact g_nret C 21 rfl dX7_isHeard_21
    · skip
      refine g_iconst C 16 1 dX7_isHeard_16 rfl ?_
      refine g_goto C 17 21 dX7_isHeard_17 (by decide) ?_
      exact g_nret C 21 rfl dX7_isHeard_21
def pX7_judgesOn (F : Nat) (p1 : Int32) (p2 : Int32) (p3 : Int32) (u : St) : Option (Int32 × St) :=
  bd (pX7_hearsOn F p1 p2 p3 u) (fun (r2 : Int32) (u1 : St) => gd (inb ((p1 + 24) + p2) 408) (vl (sta u1 0 ((p1 + 24) + p2) r2) (fun (u3 : St) => gd (inb ((p1 + 32) + p2) 408) (vl (sta u3 0 ((p1 + 32) + p2) ((u3.1 18) + 1)) (fun (u4 : St) => gd (inb ((p1 + 36) + p2) 408) (vl (sta u4 0 ((p1 + 36) + p2) (p3 + 1)) (fun (u5 : St) => some (r2, u5))))))))
set_option maxRecDepth 100000 in
set_option maxHeartbeats 4000000 in
theorem tX7_judgesOn {l : Launch} {D : va_G} {cI cZ : ClassId} {ad : Nat → Nat} (F : Nat) (p1 : Int32) (p2 : Int32) (p3 : Int32) (u : St) : CtI l D [(cI, .int), (cZ, .boolean)] (wM ad cI cZ) E0 yX7_judgesOn wsX7_judgesOn ({ frames := 3, cells := 0, slots := 0, locals := 75 } : Room) [.ref (ad 0), .int p1, .int p2, .int p3] u (pX7_judgesOn F p1 p2 p3 u) := by
  refine ctI_of (own := RX7) (cc := cX7_judgesOn) (n := 5) (ret := (some .int)) (by decide) rfl rfl (Nat.le_of_ble_eq_true rfl) (lv := [(0, .ref (ad 0)), (1, .int p1), (2, .int p2), (3, .int p3)]) rfl (fun C => ?_)
  have iX7 : ∀ w ∈ wsX70, w ∈ wsX7_judgesOn := fun w h => List.mem_cons_of_mem _ (List.mem_append_right _ (inlX7 w h))
  rw [pX7_judgesOn]
  refine g_aload_n C 0 0 dX7_judgesOn_0 rfl ?_
  refine g_iload_n C 1 1 dX7_judgesOn_1 rfl ?_
  refine g_iload_n C 2 2 dX7_judgesOn_2 rfl ?_
  refine g_iload_n C 3 3 dX7_judgesOn_3 rfl ?_
  refine g_callVi (st := []) (As := [.int p1, .int p2, .int p3]) C E0_ok E0_vm 4 0 3 (tX7_hearsOn F p1 p2 p3 u) rfl gX7_judgesOn_X7_hearsOn rfl rfl rfl (by decide +kernel) ⟨Nat.le_of_ble_eq_true rfl, Nat.le_of_ble_eq_true rfl⟩ rfl rfl rfl (Nat.le_of_ble_eq_true rfl) dX7_judgesOn_4 (fun r2 u1 => ?_)
  refine g_istore C 7 [(4, .int r2), (0, .ref (ad 0)), (1, .int p1), (2, .int p2), (3, .int p3)] dX7_judgesOn_7 (by decide) rfl ?_
  refine g_aload_n C 9 1 dX7_judgesOn_9 rfl ?_
  refine gfM_X7_state C 10 iX7 (List.mem_cons_of_mem _ (List.mem_append_right _ wgL_5_14.1)) dX7_judgesOn_10 ?_
  refine g_iload_n C 13 2 dX7_judgesOn_13 rfl ?_
  refine g_bipush C 14 24 dX7_judgesOn_14 rfl ?_
  refine g_iadd C 16 dX7_judgesOn_16 ?_
  refine g_iload_n C 17 3 dX7_judgesOn_17 rfl ?_
  refine g_iadd C 18 dX7_judgesOn_18 ?_
  refine g_iload C 19 0 dX7_judgesOn_19 rfl ?_
  refine g_iast C 21 (1 + 0) 0 0 (wM_arr 0 (by decide)) (wM_aset 0 (by decide)) rfl dX7_judgesOn_21 (fun u3 => ?_)
  refine g_aload_n C 22 1 dX7_judgesOn_22 rfl ?_
  refine gfM_X7_state C 23 iX7 (List.mem_cons_of_mem _ (List.mem_append_right _ wgL_5_14.1)) dX7_judgesOn_23 ?_
  refine g_iload_n C 26 2 dX7_judgesOn_26 rfl ?_
  refine g_bipush C 27 32 dX7_judgesOn_27 rfl ?_
  refine g_iadd C 29 dX7_judgesOn_29 ?_
  refine g_iload_n C 30 3 dX7_judgesOn_30 rfl ?_
  refine g_iadd C 31 dX7_judgesOn_31 ?_
  refine g_aload_n C 32 1 dX7_judgesOn_32 rfl ?_
  refine gfM_X7_endedAt C 33 iX7 (List.mem_cons_of_mem _ (List.mem_append_right _ wgL_27_12.1)) dX7_judgesOn_33 ?_
  refine g_iconst C 36 1 dX7_judgesOn_36 rfl ?_
  refine g_iadd C 37 dX7_judgesOn_37 ?_
  refine g_iast C 38 (1 + 0) 0 0 (wM_arr 0 (by decide)) (wM_aset 0 (by decide)) rfl dX7_judgesOn_38 (fun u4 => ?_)
  refine g_aload_n C 39 1 dX7_judgesOn_39 rfl ?_
  refine gfM_X7_state C 40 iX7 (List.mem_cons_of_mem _ (List.mem_append_right _ wgL_5_14.1)) dX7_judgesOn_40 ?_
  refine g_iload_n C 43 2 dX7_judgesOn_43 rfl ?_
  refine g_bipush C 44 36 dX7_judgesOn_44 rfl ?_
  refine g_iadd C 46 dX7_judgesOn_46 ?_
  refine g_iload_n C 47 3 dX7_judgesOn_47 rfl ?_
  refine g_iadd C 48 dX7_judgesOn_48 ?_
  refine g_iload_n C 49 4 dX7_judgesOn_49 rfl ?_
  refine g_iconst C 50 1 dX7_judgesOn_50 rfl ?_
  refine g_iadd C 51 dX7_judgesOn_51 ?_
  refine g_iast C 52 (1 + 0) 0 0 (wM_arr 0 (by decide)) (wM_aset 0 (by decide)) rfl dX7_judgesOn_52 (fun u5 => ?_)
  refine g_iload C 53 0 dX7_judgesOn_53 rfl ?_
  exact g_iret C 55 dX7_judgesOn_55
def pX7_hears (F : Nat) (p1 : Int32) (p2 : Int32) (u : St) : Option (Int32 × St) :=
  bd (pX7_isHeard F p1 p2 u) (fun (r2 : Int32) (u1 : St) => if r2 = 0 then some ((-1), u1) else gd (inb (24 + p1) 408) (if (u1.2 0 (Int32.toNatClampNeg (24 + p1))) = 0 then bd (pX7_judgesOn F 0 p1 p2 u1) (fun (r4 : Int32) (u3 : St) => some (r4, u3)) else some ((-2), u1)))
set_option maxRecDepth 100000 in
set_option maxHeartbeats 4000000 in
theorem tX7_hears {l : Launch} {D : va_G} {cI cZ : ClassId} {ad : Nat → Nat} (F : Nat) (p1 : Int32) (p2 : Int32) (u : St) : CtI l D [(cI, .int), (cZ, .boolean)] (wM ad cI cZ) E0 yX7_hears wsX7_hears ({ frames := 4, cells := 0, slots := 0, locals := 99 } : Room) [.ref (ad 0), .int p1, .int p2] u (pX7_hears F p1 p2 u) := by
  refine ctI_of (own := RX7) (cc := cX7_hears) (n := 3) (ret := (some .int)) (by decide) rfl rfl (Nat.le_of_ble_eq_true rfl) (lv := [(0, .ref (ad 0)), (1, .int p1), (2, .int p2)]) rfl (fun C => ?_)
  have iX7 : ∀ w ∈ wsX70, w ∈ wsX7_hears := fun w h => List.mem_cons_of_mem _ (List.mem_append_right _ (inlX7 w h))
  rw [pX7_hears]
  refine g_aload_n C 0 0 dX7_hears_0 rfl ?_
  refine g_iload_n C 1 1 dX7_hears_1 rfl ?_
  refine g_iload_n C 2 2 dX7_hears_2 rfl ?_
  refine g_callVi (st := []) (As := [.int p1, .int p2]) C E0_ok E0_vm 3 0 2 (tX7_isHeard F p1 p2 u) rfl gX7_hears_X7_isHeard rfl rfl rfl (by decide +kernel) ⟨Nat.le_of_ble_eq_true rfl, Nat.le_of_ble_eq_true rfl⟩ rfl rfl rfl (Nat.le_of_ble_eq_true rfl) dX7_hears_3 (fun r2 u1 => ?_)
  refine g_if_ne C 6 11 dX7_hears_6 (by decide) ?_ ?_
  · skip
    refine g_aload_n C 11 0 dX7_hears_11 rfl ?_
    refine gfM_X7_state C 12 iX7 (List.mem_cons_of_mem _ (List.mem_append_right _ wgL_5_14.1)) dX7_hears_12 ?_
    refine g_bipush C 15 24 dX7_hears_15 rfl ?_
    refine g_iload_n C 17 1 dX7_hears_17 rfl ?_
    refine g_iadd C 18 dX7_hears_18 ?_
    refine g_iald C 19 (1 + 0) 0 (wM_arr 0 (by decide)) rfl dX7_hears_19 ?_
    refine g_if_eq C 20 28 dX7_hears_20 (by decide) ?_ ?_
    · skip
      refine g_aload_n C 28 0 dX7_hears_28 rfl ?_
      refine g_iconst C 29 0 dX7_hears_29 rfl ?_
      refine g_iload_n C 30 1 dX7_hears_30 rfl ?_
      refine g_iload_n C 31 2 dX7_hears_31 rfl ?_
      refine g_callVi (st := []) (As := [.int 0, .int p1, .int p2]) C E0_ok E0_vm 32 0 3 (tX7_judgesOn F 0 p1 p2 u1) rfl gX7_hears_X7_judgesOn rfl rfl rfl (by decide +kernel) ⟨Nat.le_of_ble_eq_true rfl, Nat.le_of_ble_eq_true rfl⟩ rfl rfl rfl (Nat.le_of_ble_eq_true rfl) dX7_hears_32 (fun r4 u3 => ?_)
      exact g_iret C 35 dX7_hears_35
    · skip
      refine g_bipush C 23 (-2) dX7_hears_23 rfl ?_
      refine g_goto C 25 35 dX7_hears_25 (by decide) ?_
      exact g_iret C 35 dX7_hears_35
  · skip
    refine g_iconst C 9 (-1) dX7_hears_9 rfl ?_
    exact g_iret C 10 dX7_hears_10
def pX7_hear (F : Nat) (p1 : Int32) (p2 : Int32) (u : St) : Option (Int32 × St) :=
  bd (pX7_hears F p1 p2 u) (fun (r2 : Int32) (u1 : St) => some (r2, u1))
set_option maxRecDepth 100000 in
set_option maxHeartbeats 4000000 in
theorem tX7_hear {l : Launch} {D : va_G} {cI cZ : ClassId} {ad : Nat → Nat} (F : Nat) (p1 : Int32) (p2 : Int32) (u : St) : CtI l D [(cI, .int), (cZ, .boolean)] (wM ad cI cZ) E0 yX7_hear wsX7_hear ({ frames := 5, cells := 0, slots := 0, locals := 121 } : Room) [.ref (ad 0), .int p1, .int p2] u (pX7_hear F p1 p2 u) := by
  refine ctI_of (own := RX7) (cc := cX7_hear) (n := 3) (ret := (some .int)) (by decide) rfl rfl (Nat.le_of_ble_eq_true rfl) (lv := [(0, .ref (ad 0)), (1, .int p1), (2, .int p2)]) rfl (fun C => ?_)
  rw [pX7_hear]
  refine g_aload_n C 0 0 dX7_hear_0 rfl ?_
  refine g_iload_n C 1 1 dX7_hear_1 rfl ?_
  refine g_iload_n C 2 2 dX7_hear_2 rfl ?_
  refine g_callVi (st := []) (As := [.int p1, .int p2]) C E0_ok E0_vm 3 0 2 (tX7_hears F p1 p2 u) rfl gX7_hear_X7_hears rfl rfl rfl (by decide +kernel) ⟨Nat.le_of_ble_eq_true rfl, Nat.le_of_ble_eq_true rfl⟩ rfl rfl rfl (Nat.le_of_ble_eq_true rfl) dX7_hear_3 (fun r2 u1 => ?_)
  exact g_iret C 6 dX7_hear_6
def jX7_appeal_106 (F : Nat) (p1 : Int32)  (u6 : St) : Option (Int32 × St) :=
  bd (pX7_lengthOf F 0 p1 u6) (fun (r8 : Int32) (u7 : St) => some (r8, u7))
def bX7_appeal_62 (F : Nat) (p1 : Int32) (J106 : St → Option (Int32 × St)) (self11 : Int32 → St → Option (Int32 × St)) (x9 : Int32) (u10 : St) : Option (Int32 × St) :=
  if ((2 * p1) + 2) ≤ x9 then (J106 u10) else gd (inb (8 + x9) 408) (gd (inb (8 + x9) 408) (jn (fun (a12 : Int32) (u13 : St) => gd (inb (8 + x9) 408) (vl (sta u13 0 (8 + x9) ((u10.2 0 (Int32.toNatClampNeg (8 + x9))) + a12)) (fun (u14 : St) => (self11 (x9 + 1) u14)))) (fun (J98 : Int32 → St → Option (Int32 × St)) => if (u10.2 0 (Int32.toNatClampNeg (8 + x9))) = 0 then (J98 1 u10) else (J98 0 u10))))
def pX7_appeal (F : Nat) (p1 : Int32) (u : St) : Option (Int32 × St) :=
  bd (pX7_isCase F p1 u) (fun (r2 : Int32) (u1 : St) => if r2 = 0 then some ((-1), u1) else gd (inb (24 + p1) 408) (if (u1.2 0 (Int32.toNatClampNeg (24 + p1))) = 0 then some ((-2), u1) else gd (inb (28 + p1) 408) (if (u1.2 0 (Int32.toNatClampNeg (28 + p1))) = 1 then some ((-2), u1) else gd (inb (24 + p1) 408) (vl (sta u1 0 (24 + p1) 0) (fun (u3 : St) => gd (inb (28 + p1) 408) (vl (sta u3 0 (28 + p1) 1) (fun (u4 : St) => vl (2 * p1) (fun v5 => jn (jX7_appeal_106 F p1) (fun (J106 : St → Option (Int32 × St)) => (lq1 (bX7_appeal_62 F p1 J106) F v5 u4))))))))))
set_option maxRecDepth 100000 in
set_option maxHeartbeats 4000000 in
theorem tX7_appeal {l : Launch} {D : va_G} {cI cZ : ClassId} {ad : Nat → Nat} (F : Nat) (p1 : Int32) (u : St) : CtI l D [(cI, .int), (cZ, .boolean)] (wM ad cI cZ) E0 yX7_appeal wsX7_appeal ({ frames := 2, cells := 0, slots := 0, locals := 46 } : Room) [.ref (ad 0), .int p1] u (pX7_appeal F p1 u) := by
  refine ctI_of (own := RX7) (cc := cX7_appeal) (n := 3) (ret := (some .int)) (by decide) rfl rfl (Nat.le_of_ble_eq_true rfl) (lv := [(0, .ref (ad 0)), (1, .int p1)]) rfl (fun C => ?_)
  have iX7 : ∀ w ∈ wsX70, w ∈ wsX7_appeal := fun w h => List.mem_cons_of_mem _ (List.mem_append_right _ (inlX7 w h))
  rw [pX7_appeal]
  refine g_aload_n C 0 0 dX7_appeal_0 rfl ?_
  refine g_iload_n C 1 1 dX7_appeal_1 rfl ?_
  refine g_callVi (st := []) (As := [.int p1]) C E0_ok E0_vm 2 0 1 (tX7_isCase F p1 u) rfl gX7_appeal_X7_isCase rfl rfl rfl (by decide +kernel) ⟨Nat.le_of_ble_eq_true rfl, Nat.le_of_ble_eq_true rfl⟩ rfl rfl rfl (Nat.le_of_ble_eq_true rfl) dX7_appeal_2 (fun r2 u1 => ?_)
  refine g_if_ne C 5 10 dX7_appeal_5 (by decide) ?_ ?_
  · skip
    refine g_aload_n C 10 0 dX7_appeal_10 rfl ?_
    refine gfM_X7_state C 11 iX7 (List.mem_cons_of_mem _ (List.mem_append_right _ wgL_5_14.1)) dX7_appeal_11 ?_
    refine g_bipush C 14 24 dX7_appeal_14 rfl ?_
    refine g_iload_n C 16 1 dX7_appeal_16 rfl ?_
    refine g_iadd C 17 dX7_appeal_17 ?_
    refine g_iald C 18 (1 + 0) 0 (wM_arr 0 (by decide)) rfl dX7_appeal_18 ?_
    refine g_if_eq C 19 35 dX7_appeal_19 (by decide) ?_ ?_
    · skip
      refine g_bipush C 35 (-2) dX7_appeal_35 rfl ?_
      exact g_iret C 37 dX7_appeal_37
    · skip
      refine g_aload_n C 22 0 dX7_appeal_22 rfl ?_
      refine gfM_X7_state C 23 iX7 (List.mem_cons_of_mem _ (List.mem_append_right _ wgL_5_14.1)) dX7_appeal_23 ?_
      refine g_bipush C 26 28 dX7_appeal_26 rfl ?_
      refine g_iload_n C 28 1 dX7_appeal_28 rfl ?_
      refine g_iadd C 29 dX7_appeal_29 ?_
      refine g_iald C 30 (1 + 0) 0 (wM_arr 0 (by decide)) rfl dX7_appeal_30 ?_
      refine g_iconst C 31 1 dX7_appeal_31 rfl ?_
      refine g_icmp_ne C 32 38 dX7_appeal_32 (by decide) ?_ ?_
      · skip
        refine g_aload_n C 38 0 dX7_appeal_38 rfl ?_
        refine gfM_X7_state C 39 iX7 (List.mem_cons_of_mem _ (List.mem_append_right _ wgL_5_14.1)) dX7_appeal_39 ?_
        refine g_bipush C 42 24 dX7_appeal_42 rfl ?_
        refine g_iload_n C 44 1 dX7_appeal_44 rfl ?_
        refine g_iadd C 45 dX7_appeal_45 ?_
        refine g_iconst C 46 0 dX7_appeal_46 rfl ?_
        refine g_iast C 47 (1 + 0) 0 0 (wM_arr 0 (by decide)) (wM_aset 0 (by decide)) rfl dX7_appeal_47 (fun u3 => ?_)
        refine g_aload_n C 48 0 dX7_appeal_48 rfl ?_
        refine gfM_X7_state C 49 iX7 (List.mem_cons_of_mem _ (List.mem_append_right _ wgL_5_14.1)) dX7_appeal_49 ?_
        refine g_bipush C 52 28 dX7_appeal_52 rfl ?_
        refine g_iload_n C 54 1 dX7_appeal_54 rfl ?_
        refine g_iadd C 55 dX7_appeal_55 ?_
        refine g_iconst C 56 1 dX7_appeal_56 rfl ?_
        refine g_iast C 57 (1 + 0) 0 0 (wM_arr 0 (by decide)) (wM_aset 0 (by decide)) rfl dX7_appeal_57 (fun u4 => ?_)
        refine g_iconst C 58 2 dX7_appeal_58 rfl ?_
        refine g_iload_n C 59 1 dX7_appeal_59 rfl ?_
        refine g_imul C 60 dX7_appeal_60 ?_
        refine g_istore_nV C 61 (fun v5 => [(2, .int v5), (0, .ref (ad 0)), (1, .int p1)]) dX7_appeal_61 (by decide) (fun _ => rfl) (fun v5 => ?_)
        refine g_jn0 106 ([(0, .ref (ad 0)), (1, .int p1)]) ([]) (fun u6 => ?_) (fun J106 hJ106 => ?_)
        · skip
          rw [jX7_appeal_106]
          refine g_aload_n C 106 0 dX7_appeal_106 rfl ?_
          refine g_iconst C 107 0 dX7_appeal_107 rfl ?_
          refine g_iload_n C 108 1 dX7_appeal_108 rfl ?_
          refine g_callVi (st := []) (As := [.int 0, .int p1]) C E0_ok E0_vm 109 0 2 (tX7_lengthOf F 0 p1 u6) rfl gX7_appeal_X7_lengthOf rfl rfl rfl (by decide +kernel) ⟨Nat.le_of_ble_eq_true rfl, Nat.le_of_ble_eq_true rfl⟩ rfl rfl rfl (Nat.le_of_ble_eq_true rfl) dX7_appeal_109 (fun r8 u7 => ?_)
          exact g_iret C 112 dX7_appeal_112
        · skip
          refine g_sub _ [1, 2, 0] rfl ?_
          refine g_lq1 (fun (x9 : Int32) => [(0, .ref (ad 0)), (1, .int p1), (2, .int x9)]) (fun self11 hself11 x9 u10 => ?_) F v5 u4
          rw [bX7_appeal_62]
          refine g_iload_n C 62 2 dX7_appeal_62 rfl ?_
          refine g_iconst C 63 2 dX7_appeal_63 rfl ?_
          refine g_iload_n C 64 1 dX7_appeal_64 rfl ?_
          refine g_imul C 65 dX7_appeal_65 ?_
          refine g_iconst C 66 2 dX7_appeal_66 rfl ?_
          refine g_iadd C 67 dX7_appeal_67 ?_
          refine g_icmp_ge C 68 106 dX7_appeal_68 (by decide) ?_ ?_
          · skip
            exact g_sub _ [0, 1] rfl (hJ106 u10)
          · skip
            refine g_aload_n C 71 0 dX7_appeal_71 rfl ?_
            refine gfM_X7_state C 72 iX7 (List.mem_cons_of_mem _ (List.mem_append_right _ wgL_5_14.1)) dX7_appeal_72 ?_
            refine g_bipush C 75 8 dX7_appeal_75 rfl ?_
            refine g_iload_n C 77 2 dX7_appeal_77 rfl ?_
            refine g_iadd C 78 dX7_appeal_78 ?_
            refine g_dup2 C 79 dX7_appeal_79 rfl rfl ?_
            refine g_iald C 80 (1 + 0) 0 (wM_arr 0 (by decide)) rfl dX7_appeal_80 ?_
            refine g_aload_n C 81 0 dX7_appeal_81 rfl ?_
            refine gfM_X7_state C 82 iX7 (List.mem_cons_of_mem _ (List.mem_append_right _ wgL_5_14.1)) dX7_appeal_82 ?_
            refine g_bipush C 85 8 dX7_appeal_85 rfl ?_
            refine g_iload_n C 87 2 dX7_appeal_87 rfl ?_
            refine g_iadd C 88 dX7_appeal_88 ?_
            refine g_iald C 89 (1 + 0) 0 (wM_arr 0 (by decide)) rfl dX7_appeal_89 ?_
            refine g_jn1 98 (fun (a12 : Int32) => [(0, .ref (ad 0)), (1, .int p1), (2, .int x9)]) (fun (a12 : Int32) => [.int a12, .int (u10.2 0 (Int32.toNatClampNeg (8 + x9))), .int (8 + x9), .ref (ad (1 + 0))]) (fun a12 u13 => ?_) (fun J98 hJ98 => ?_)
            · skip
              refine g_iadd C 98 dX7_appeal_98 ?_
              refine g_iast C 99 (1 + 0) 0 0 (wM_arr 0 (by decide)) (wM_aset 0 (by decide)) rfl dX7_appeal_99 (fun u14 => ?_)
              refine g_iinc C 100 2 [(2, .int (x9 + 1)), (0, .ref (ad 0)), (1, .int p1)] dX7_appeal_100 rfl rfl (by decide) rfl ?_
              refine g_goto C 103 62 dX7_appeal_103 (by decide) ?_
              exact g_sub _ [1, 2, 0] rfl (hself11 (x9 + 1) u14)
            · skip
              refine g_if_ne C 90 97 dX7_appeal_90 (by decide) ?_ ?_
              · skip
                refine g_iconst C 97 0 dX7_appeal_97 rfl ?_
                exact g_sub _ [0, 1, 2] rfl (hJ98 0 u10)
              · skip
                refine g_iconst C 93 1 dX7_appeal_93 rfl ?_
                refine g_goto C 94 98 dX7_appeal_94 (by decide) ?_
                exact g_sub _ [0, 1, 2] rfl (hJ98 1 u10)
      · skip
        refine g_bipush C 35 (-2) dX7_appeal_35 rfl ?_
        exact g_iret C 37 dX7_appeal_37
  · skip
    refine g_iconst C 8 (-1) dX7_appeal_8 rfl ?_
    exact g_iret C 9 dX7_appeal_9
def bX7_copies_2 (F : Nat) (p1 : Int32) (p2 : Int32) (self3 : Int32 → St → Option (Unit × St)) (x1 : Int32) (u2 : St) : Option (Unit × St) :=
  if 68 ≤ x1 then some ((), u2) else gd (inb (p1 + x1) 408) (gd (inb (p2 + x1) 408) (vl (sta u2 0 (p2 + x1) (u2.2 0 (Int32.toNatClampNeg (p1 + x1)))) (fun (u4 : St) => (self3 (x1 + 1) u4))))
def pX7_copies (F : Nat) (p1 : Int32) (p2 : Int32) (u : St) : Option (Unit × St) :=
  (lq1 (bX7_copies_2 F p1 p2) F 0 u)
set_option maxRecDepth 100000 in
set_option maxHeartbeats 4000000 in
theorem tX7_copies {l : Launch} {D : va_G} {cI cZ : ClassId} {ad : Nat → Nat} (F : Nat) (p1 : Int32) (p2 : Int32) (u : St) : CtV l D [(cI, .int), (cZ, .boolean)] (wM ad cI cZ) E0 yX7_copies wsX7_copies ({ frames := 0, cells := 0, slots := 0, locals := 0 } : Room) [.ref (ad 0), .int p1, .int p2] u (pX7_copies F p1 p2 u) := by
  refine ctV_of (own := RX7) (cc := cX7_copies) (n := 4) (ret := none) (by decide) rfl rfl (Nat.le_of_ble_eq_true rfl) (lv := [(0, .ref (ad 0)), (1, .int p1), (2, .int p2)]) rfl (fun C => ?_)
  have iX7 : ∀ w ∈ wsX70, w ∈ wsX7_copies := fun w h => List.mem_cons_of_mem _ (List.mem_append_right _ (inlX7 w h))
  rw [pX7_copies]
  refine g_iconst C 0 0 dX7_copies_0 rfl ?_
  refine g_istore_n C 1 [(3, .int 0), (0, .ref (ad 0)), (1, .int p1), (2, .int p2)] dX7_copies_1 (by decide) rfl ?_
  refine g_sub _ [1, 2, 3, 0] rfl ?_
  refine g_lq1 (fun (x1 : Int32) => [(0, .ref (ad 0)), (1, .int p1), (2, .int p2), (3, .int x1)]) (fun self3 hself3 x1 u2 => ?_) F 0 u
  rw [bX7_copies_2]
  refine g_iload_n C 2 3 dX7_copies_2 rfl ?_
  refine g_bipush C 3 68 dX7_copies_3 rfl ?_
  refine g_icmp_ge C 5 30 dX7_copies_5 (by decide) ?_ ?_
  · skip
    exact g_vret C 30 dX7_copies_30
  · skip
    refine g_aload_n C 8 0 dX7_copies_8 rfl ?_
    refine gfM_X7_state C 9 iX7 (List.mem_cons_of_mem _ (List.mem_append_right _ wgL_5_14.1)) dX7_copies_9 ?_
    refine g_iload_n C 12 2 dX7_copies_12 rfl ?_
    refine g_iload_n C 13 3 dX7_copies_13 rfl ?_
    refine g_iadd C 14 dX7_copies_14 ?_
    refine g_aload_n C 15 0 dX7_copies_15 rfl ?_
    refine gfM_X7_state C 16 iX7 (List.mem_cons_of_mem _ (List.mem_append_right _ wgL_5_14.1)) dX7_copies_16 ?_
    refine g_iload_n C 19 1 dX7_copies_19 rfl ?_
    refine g_iload_n C 20 3 dX7_copies_20 rfl ?_
    refine g_iadd C 21 dX7_copies_21 ?_
    refine g_iald C 22 (1 + 0) 0 (wM_arr 0 (by decide)) rfl dX7_copies_22 ?_
    refine g_iast C 23 (1 + 0) 0 0 (wM_arr 0 (by decide)) (wM_aset 0 (by decide)) rfl dX7_copies_23 (fun u4 => ?_)
    refine g_iinc C 24 3 [(3, .int (x1 + 1)), (0, .ref (ad 0)), (1, .int p1), (2, .int p2)] dX7_copies_24 rfl rfl (by decide) rfl ?_
    refine g_goto C 27 2 dX7_copies_27 (by decide) ?_
    exact g_sub _ [1, 2, 3, 0] rfl (hself3 (x1 + 1) u4)
def pX7_tries (F : Nat) (p1 : Int32) (p2 : Int32) (p3 : Int32) (u : St) : Option (Int32 × St) :=
  bd (pX7_copies F p1 272 u) (fun (_ : Unit) (u1 : St) => bd (pX7_hearsOn F 272 p2 p3 u1) (fun (r3 : Int32) (u2 : St) => some (r3, u2)))
set_option maxRecDepth 100000 in
set_option maxHeartbeats 4000000 in
theorem tX7_tries {l : Launch} {D : va_G} {cI cZ : ClassId} {ad : Nat → Nat} (F : Nat) (p1 : Int32) (p2 : Int32) (p3 : Int32) (u : St) : CtI l D [(cI, .int), (cZ, .boolean)] (wM ad cI cZ) E0 yX7_tries wsX7_tries ({ frames := 3, cells := 0, slots := 0, locals := 75 } : Room) [.ref (ad 0), .int p1, .int p2, .int p3] u (pX7_tries F p1 p2 p3 u) := by
  refine ctI_of (own := RX7) (cc := cX7_tries) (n := 4) (ret := (some .int)) (by decide) rfl rfl (Nat.le_of_ble_eq_true rfl) (lv := [(0, .ref (ad 0)), (1, .int p1), (2, .int p2), (3, .int p3)]) rfl (fun C => ?_)
  rw [pX7_tries]
  refine g_aload_n C 0 0 dX7_tries_0 rfl ?_
  refine g_iload_n C 1 1 dX7_tries_1 rfl ?_
  refine g_sipush C 2 272 dX7_tries_2 rfl ?_
  refine g_callVv (st := []) (As := [.int p1, .int 272]) C E0_ok E0_vm 5 0 2 (tX7_copies F p1 272 u) rfl gX7_tries_X7_copies rfl rfl rfl (by decide +kernel) ⟨Nat.le_of_ble_eq_true rfl, Nat.le_of_ble_eq_true rfl⟩ rfl rfl rfl (Nat.le_of_ble_eq_true rfl) dX7_tries_5 (fun u1 => ?_)
  refine g_aload_n C 8 0 dX7_tries_8 rfl ?_
  refine g_sipush C 9 272 dX7_tries_9 rfl ?_
  refine g_iload_n C 12 2 dX7_tries_12 rfl ?_
  refine g_iload_n C 13 3 dX7_tries_13 rfl ?_
  refine g_callVi (st := []) (As := [.int 272, .int p2, .int p3]) C E0_ok E0_vm 14 0 3 (tX7_hearsOn F 272 p2 p3 u1) rfl gX7_tries_X7_hearsOn rfl rfl rfl (by decide +kernel) ⟨Nat.le_of_ble_eq_true rfl, Nat.le_of_ble_eq_true rfl⟩ rfl rfl rfl (Nat.le_of_ble_eq_true rfl) dX7_tries_14 (fun r3 u2 => ?_)
  exact g_iret C 17 dX7_tries_17
def pX7_foretell (F : Nat) (p1 : Int32) (p2 : Int32) (p3 : Int32) (u : St) : Option (Int32 × St) :=
  bd (pX7_isHeard F p1 p2 u) (fun (r2 : Int32) (u1 : St) => if r2 = 0 then some ((-1), u1) else bd (pX7_in F (Int32.toInt64 p3) 0 2 u1) (fun (r4 : Int32) (u3 : St) => if r4 = 0 then some ((-1), u3) else bd (pX7_tries F 0 p1 p2 u3) (fun (r6 : Int32) (u5 : St) => if p3 = 0 then some (r6, u5) else if p3 = 1 then some ((u5.1 18), u5) else bd (pX7_lengthOf F 272 p1 u5) (fun (r8 : Int32) (u7 : St) => some (r8, u7)))))
set_option maxRecDepth 100000 in
set_option maxHeartbeats 4000000 in
theorem tX7_foretell {l : Launch} {D : va_G} {cI cZ : ClassId} {ad : Nat → Nat} (F : Nat) (p1 : Int32) (p2 : Int32) (p3 : Int32) (u : St) : CtI l D [(cI, .int), (cZ, .boolean)] (wM ad cI cZ) E0 yX7_foretell wsX7_foretell ({ frames := 4, cells := 0, slots := 0, locals := 98 } : Room) [.ref (ad 0), .int p1, .int p2, .int p3] u (pX7_foretell F p1 p2 p3 u) := by
  refine ctI_of (own := RX7) (cc := cX7_foretell) (n := 5) (ret := (some .int)) (by decide) rfl rfl (Nat.le_of_ble_eq_true rfl) (lv := [(0, .ref (ad 0)), (1, .int p1), (2, .int p2), (3, .int p3)]) rfl (fun C => ?_)
  have iX7 : ∀ w ∈ wsX70, w ∈ wsX7_foretell := fun w h => List.mem_cons_of_mem _ (List.mem_append_right _ (inlX7 w h))
  rw [pX7_foretell]
  refine g_aload_n C 0 0 dX7_foretell_0 rfl ?_
  refine g_iload_n C 1 1 dX7_foretell_1 rfl ?_
  refine g_iload_n C 2 2 dX7_foretell_2 rfl ?_
  refine g_callVi (st := []) (As := [.int p1, .int p2]) C E0_ok E0_vm 3 0 2 (tX7_isHeard F p1 p2 u) rfl gX7_foretell_X7_isHeard rfl rfl rfl (by decide +kernel) ⟨Nat.le_of_ble_eq_true rfl, Nat.le_of_ble_eq_true rfl⟩ rfl rfl rfl (Nat.le_of_ble_eq_true rfl) dX7_foretell_3 (fun r2 u1 => ?_)
  refine g_if_eq C 6 21 dX7_foretell_6 (by decide) ?_ ?_
  · skip
    refine g_iconst C 21 (-1) dX7_foretell_21 rfl ?_
    exact g_iret C 22 dX7_foretell_22
  · skip
    refine g_iload_n C 9 3 dX7_foretell_9 rfl ?_
    refine g_i2l C 10 dX7_foretell_10 ?_
    refine g_lconst C 11 0 dX7_foretell_11 rfl ?_
    refine g_ldc2 C 12 2 (by decide +kernel) dX7_foretell_12 ?_
    refine g_callSi (st := []) (As := [.long (Int32.toInt64 p3), .long 0, .long 2]) C E0_ok E0_vm 15 3 (tX7_in F (Int32.toInt64 p3) 0 2 u1) rfl gX7_foretell_X7_in rfl rfl rfl (by decide +kernel) ⟨Nat.le_of_ble_eq_true rfl, Nat.le_of_ble_eq_true rfl⟩ rfl (Nat.le_of_ble_eq_true rfl) dX7_foretell_15 (fun r4 u3 => ?_)
    refine g_if_ne C 18 23 dX7_foretell_18 (by decide) ?_ ?_
    · skip
      refine g_aload_n C 23 0 dX7_foretell_23 rfl ?_
      refine g_iconst C 24 0 dX7_foretell_24 rfl ?_
      refine g_iload_n C 25 1 dX7_foretell_25 rfl ?_
      refine g_iload_n C 26 2 dX7_foretell_26 rfl ?_
      refine g_callVi (st := []) (As := [.int 0, .int p1, .int p2]) C E0_ok E0_vm 27 0 3 (tX7_tries F 0 p1 p2 u3) rfl gX7_foretell_X7_tries rfl rfl rfl (by decide +kernel) ⟨Nat.le_of_ble_eq_true rfl, Nat.le_of_ble_eq_true rfl⟩ rfl rfl rfl (Nat.le_of_ble_eq_true rfl) dX7_foretell_27 (fun r6 u5 => ?_)
      refine g_istore C 30 [(4, .int r6), (0, .ref (ad 0)), (1, .int p1), (2, .int p2), (3, .int p3)] dX7_foretell_30 (by decide) rfl ?_
      refine g_iload_n C 32 4 dX7_foretell_32 rfl ?_
      refine g_if_ne C 33 41 dX7_foretell_33 (by decide) ?_ ?_
      · skip
        refine g_iload_n C 41 4 dX7_foretell_41 rfl ?_
        refine g_iconst C 42 1 dX7_foretell_42 rfl ?_
        refine g_icmp_ne C 43 53 dX7_foretell_43 (by decide) ?_ ?_
        · skip
          refine g_aload_n C 53 1 dX7_foretell_53 rfl ?_
          refine g_sipush C 54 272 dX7_foretell_54 rfl ?_
          refine g_iload_n C 57 2 dX7_foretell_57 rfl ?_
          refine g_callVi (st := []) (As := [.int 272, .int p1]) C E0_ok E0_vm 58 0 2 (tX7_lengthOf F 272 p1 u5) rfl gX7_foretell_X7_lengthOf rfl rfl rfl (by decide +kernel) ⟨Nat.le_of_ble_eq_true rfl, Nat.le_of_ble_eq_true rfl⟩ rfl rfl rfl (Nat.le_of_ble_eq_true rfl) dX7_foretell_58 (fun r8 u7 => ?_)
          exact g_iret C 61 dX7_foretell_61
        · skip
          refine g_aload_n C 46 1 dX7_foretell_46 rfl ?_
          refine gfM_X7_endedAt C 47 iX7 (List.mem_cons_of_mem _ (List.mem_append_right _ wgL_27_12.1)) dX7_foretell_47 ?_
          refine g_goto C 50 61 dX7_foretell_50 (by decide) ?_
          exact g_iret C 61 dX7_foretell_61
      · skip
        refine g_iload C 36 0 dX7_foretell_36 rfl ?_
        refine g_goto C 38 61 dX7_foretell_38 (by decide) ?_
        exact g_iret C 61 dX7_foretell_61
    · skip
      refine g_iconst C 21 (-1) dX7_foretell_21 rfl ?_
      exact g_iret C 22 dX7_foretell_22
def bX7_docketGoes_21 (F : Nat) (p1 : Int32) (self6 : Int32 → St → Option (Unit × St)) (x4 : Int32) (u5 : St) : Option (Unit × St) :=
  gd (inb (p1 + 55) 408) (if (u5.2 0 (Int32.toNatClampNeg (p1 + 55))) ≤ x4 then some ((), u5) else gd (inb ((p1 + 56) + x4) 408) (vl (u5.2 0 (Int32.toNatClampNeg ((p1 + 56) + x4))) (fun v7 => gd (inb (296 + v7) 408) (jn (fun (u8 : St) => (self6 (x4 + 1) u8)) (fun (J118 : St → Option (Unit × St)) => if (u5.2 0 (Int32.toNatClampNeg (296 + v7))) = 0 then gd (inb ((p1 + 62) + x4) 408) (bd (pX7_judgesOn F 272 v7 (u5.2 0 (Int32.toNatClampNeg ((p1 + 62) + x4))) u5) (fun (r10 : Int32) (u9 : St) => vl (stf u9 20 ((u9.1 20) + ((u9.1 18) + 1))) (fun (u11 : St) => (J118 u11)))) else jn (fun (a12 : Int32) (u13 : St) => vl (stf u13 19 a12) (fun (u14 : St) => (J118 u14))) (fun (J77 : Int32 → St → Option (Unit × St)) => if (u5.1 19) = (-4) then (J77 x4 u5) else (J77 (u5.1 19) u5)))))))
def pX7_docketGoes (F : Nat) (p1 : Int32) (u : St) : Option (Unit × St) :=
  bd (pX7_copies F p1 272 u) (fun (_ : Unit) (u1 : St) => vl (stf u1 19 (-4)) (fun (u2 : St) => vl (stf u2 20 0) (fun (u3 : St) => (lq1 (bX7_docketGoes_21 F p1) F 0 u3))))
set_option maxRecDepth 100000 in
set_option maxHeartbeats 4000000 in
theorem tX7_docketGoes {l : Launch} {D : va_G} {cI cZ : ClassId} {ad : Nat → Nat} (F : Nat) (p1 : Int32) (u : St) : CtV l D [(cI, .int), (cZ, .boolean)] (wM ad cI cZ) E0 yX7_docketGoes wsX7_docketGoes ({ frames := 4, cells := 0, slots := 0, locals := 99 } : Room) [.ref (ad 0), .int p1] u (pX7_docketGoes F p1 u) := by
  refine ctV_of (own := RX7) (cc := cX7_docketGoes) (n := 4) (ret := none) (by decide) rfl rfl (Nat.le_of_ble_eq_true rfl) (lv := [(0, .ref (ad 0)), (1, .int p1)]) rfl (fun C => ?_)
  have iX7 : ∀ w ∈ wsX70, w ∈ wsX7_docketGoes := fun w h => List.mem_cons_of_mem _ (List.mem_append_right _ (inlX7 w h))
  rw [pX7_docketGoes]
  refine g_aload_n C 0 0 dX7_docketGoes_0 rfl ?_
  refine g_iload_n C 1 1 dX7_docketGoes_1 rfl ?_
  refine g_sipush C 2 272 dX7_docketGoes_2 rfl ?_
  refine g_callVv (st := []) (As := [.int p1, .int 272]) C E0_ok E0_vm 5 0 2 (tX7_copies F p1 272 u) rfl gX7_docketGoes_X7_copies rfl rfl rfl (by decide +kernel) ⟨Nat.le_of_ble_eq_true rfl, Nat.le_of_ble_eq_true rfl⟩ rfl rfl rfl (Nat.le_of_ble_eq_true rfl) dX7_docketGoes_5 (fun u1 => ?_)
  refine g_aload_n C 8 0 dX7_docketGoes_8 rfl ?_
  refine g_bipush C 9 (-4) dX7_docketGoes_9 rfl ?_
  refine pfM_X7_firstNot C 11 iX7 (List.mem_cons_of_mem _ (List.mem_append_right _ wgL_30_16.1)) dX7_docketGoes_11 (fun u2 => ?_)
  refine g_aload_n C 14 0 dX7_docketGoes_14 rfl ?_
  refine g_iconst C 15 0 dX7_docketGoes_15 rfl ?_
  refine pfM_X7_minutes C 16 iX7 (List.mem_cons_of_mem _ (List.mem_append_right _ wgL_30_17.1)) dX7_docketGoes_16 (fun u3 => ?_)
  refine g_iconst C 19 0 dX7_docketGoes_19 rfl ?_
  refine g_istore_n C 20 [(2, .int 0), (0, .ref (ad 0)), (1, .int p1)] dX7_docketGoes_20 (by decide) rfl ?_
  refine g_sub _ [1, 2, 0] rfl ?_
  refine g_lq1 (fun (x4 : Int32) => [(0, .ref (ad 0)), (1, .int p1), (2, .int x4)]) (fun self6 hself6 x4 u5 => ?_) F 0 u3
  rw [bX7_docketGoes_21]
  refine g_iload_n C 21 2 dX7_docketGoes_21 rfl ?_
  refine g_aload_n C 22 0 dX7_docketGoes_22 rfl ?_
  refine gfM_X7_state C 23 iX7 (List.mem_cons_of_mem _ (List.mem_append_right _ wgL_5_14.1)) dX7_docketGoes_23 ?_
  refine g_iload_n C 26 1 dX7_docketGoes_26 rfl ?_
  refine g_bipush C 27 55 dX7_docketGoes_27 rfl ?_
  refine g_iadd C 29 dX7_docketGoes_29 ?_
  refine g_iald C 30 (1 + 0) 0 (wM_arr 0 (by decide)) rfl dX7_docketGoes_30 ?_
  refine g_icmp_ge C 31 124 dX7_docketGoes_31 (by decide) ?_ ?_
  · skip
    exact g_vret C 124 dX7_docketGoes_124
  · skip
    refine g_aload_n C 34 0 dX7_docketGoes_34 rfl ?_
    refine gfM_X7_state C 35 iX7 (List.mem_cons_of_mem _ (List.mem_append_right _ wgL_5_14.1)) dX7_docketGoes_35 ?_
    refine g_iload_n C 38 1 dX7_docketGoes_38 rfl ?_
    refine g_bipush C 39 56 dX7_docketGoes_39 rfl ?_
    refine g_iadd C 41 dX7_docketGoes_41 ?_
    refine g_iload_n C 42 2 dX7_docketGoes_42 rfl ?_
    refine g_iadd C 43 dX7_docketGoes_43 ?_
    refine g_iald C 44 (1 + 0) 0 (wM_arr 0 (by decide)) rfl dX7_docketGoes_44 ?_
    refine g_istore_nV C 45 (fun v7 => [(3, .int v7), (0, .ref (ad 0)), (1, .int p1), (2, .int x4)]) dX7_docketGoes_45 (by decide) (fun _ => rfl) (fun v7 => ?_)
    refine g_aload_n C 46 1 dX7_docketGoes_46 rfl ?_
    refine gfM_X7_state C 47 iX7 (List.mem_cons_of_mem _ (List.mem_append_right _ wgL_5_14.1)) dX7_docketGoes_47 ?_
    refine g_sipush C 50 296 dX7_docketGoes_50 rfl ?_
    refine g_iload_n C 53 0 dX7_docketGoes_53 rfl ?_
    refine g_iadd C 54 dX7_docketGoes_54 ?_
    refine g_iald C 55 (1 + 0) 0 (wM_arr 0 (by decide)) rfl dX7_docketGoes_55 ?_
    refine g_jn0 118 ([(0, .ref (ad 0)), (1, .int p1), (2, .int x4)]) ([]) (fun u8 => ?_) (fun J118 hJ118 => ?_)
    · skip
      refine g_iinc C 118 2 [(2, .int (x4 + 1)), (0, .ref (ad 0)), (1, .int p1)] dX7_docketGoes_118 rfl rfl (by decide) rfl ?_
      refine g_goto C 121 21 dX7_docketGoes_121 (by decide) ?_
      exact g_sub _ [1, 2, 0] rfl (hself6 (x4 + 1) u8)
    · skip
      refine g_if_eq C 56 83 dX7_docketGoes_56 (by decide) ?_ ?_
      · skip
        refine g_aload_n C 83 1 dX7_docketGoes_83 rfl ?_
        refine g_sipush C 84 272 dX7_docketGoes_84 rfl ?_
        refine g_iload_n C 87 0 dX7_docketGoes_87 rfl ?_
        refine g_aload_n C 88 1 dX7_docketGoes_88 rfl ?_
        refine gfM_X7_state C 89 iX7 (List.mem_cons_of_mem _ (List.mem_append_right _ wgL_5_14.1)) dX7_docketGoes_89 ?_
        refine g_iload_n C 92 2 dX7_docketGoes_92 rfl ?_
        refine g_bipush C 93 62 dX7_docketGoes_93 rfl ?_
        refine g_iadd C 95 dX7_docketGoes_95 ?_
        refine g_iload_n C 96 3 dX7_docketGoes_96 rfl ?_
        refine g_iadd C 97 dX7_docketGoes_97 ?_
        refine g_iald C 98 (1 + 0) 0 (wM_arr 0 (by decide)) rfl dX7_docketGoes_98 ?_
        refine g_callVi (st := []) (As := [.int 272, .int v7, .int (u5.2 0 (Int32.toNatClampNeg ((p1 + 62) + x4)))]) C E0_ok E0_vm 99 0 3 (tX7_judgesOn F 272 v7 (u5.2 0 (Int32.toNatClampNeg ((p1 + 62) + x4))) u5) rfl gX7_docketGoes_X7_judgesOn rfl rfl rfl (by decide +kernel) ⟨Nat.le_of_ble_eq_true rfl, Nat.le_of_ble_eq_true rfl⟩ rfl rfl rfl (Nat.le_of_ble_eq_true rfl) dX7_docketGoes_99 (fun r10 u9 => ?_)
        refine g_pop C 102 dX7_docketGoes_102 rfl ?_
        refine g_aload_n C 103 1 dX7_docketGoes_103 rfl ?_
        refine g_dup C 104 dX7_docketGoes_104 rfl ?_
        refine gfM_X7_minutes C 105 iX7 (List.mem_cons_of_mem _ (List.mem_append_right _ wgL_30_17.1)) dX7_docketGoes_105 ?_
        refine g_aload_n C 108 1 dX7_docketGoes_108 rfl ?_
        refine gfM_X7_endedAt C 109 iX7 (List.mem_cons_of_mem _ (List.mem_append_right _ wgL_27_12.1)) dX7_docketGoes_109 ?_
        refine g_iconst C 112 1 dX7_docketGoes_112 rfl ?_
        refine g_iadd C 113 dX7_docketGoes_113 ?_
        refine g_iadd C 114 dX7_docketGoes_114 ?_
        refine pfM_X7_minutes C 115 iX7 (List.mem_cons_of_mem _ (List.mem_append_right _ wgL_30_17.1)) dX7_docketGoes_115 (fun u11 => ?_)
        exact g_sub _ [1, 2, 3] rfl (hJ118 u11)
      · skip
        refine g_aload_n C 59 1 dX7_docketGoes_59 rfl ?_
        refine g_aload_n C 60 1 dX7_docketGoes_60 rfl ?_
        refine gfM_X7_firstNot C 61 iX7 (List.mem_cons_of_mem _ (List.mem_append_right _ wgL_30_16.1)) dX7_docketGoes_61 ?_
        refine g_bipush C 64 (-4) dX7_docketGoes_64 rfl ?_
        refine g_jn1 77 (fun (a12 : Int32) => [(0, .ref (ad 0)), (1, .int p1), (2, .int x4)]) (fun (a12 : Int32) => [.int a12, .ref (ad 0)]) (fun a12 u13 => ?_) (fun J77 hJ77 => ?_)
        · skip
          refine pfM_X7_firstNot C 77 iX7 (List.mem_cons_of_mem _ (List.mem_append_right _ wgL_30_16.1)) dX7_docketGoes_77 (fun u14 => ?_)
          refine g_goto C 80 118 dX7_docketGoes_80 (by decide) ?_
          exact g_sub _ [0, 1, 2] rfl (hJ118 u14)
        · skip
          refine g_icmp_ne C 66 73 dX7_docketGoes_66 (by decide) ?_ ?_
          · skip
            refine g_aload_n C 73 1 dX7_docketGoes_73 rfl ?_
            refine gfM_X7_firstNot C 74 iX7 (List.mem_cons_of_mem _ (List.mem_append_right _ wgL_30_16.1)) dX7_docketGoes_74 ?_
            exact g_sub _ [1, 2, 3] rfl (hJ77 (u5.1 19) u5)
          · skip
            refine g_iload_n C 69 3 dX7_docketGoes_69 rfl ?_
            refine g_goto C 70 77 dX7_docketGoes_70 (by decide) ?_
            exact g_sub _ [1, 2, 3] rfl (hJ77 x4 u5)
def pX7_runs (F : Nat) (p1 : Int32) (u : St) : Option (Int32 × St) :=
  bd (pX7_in F (Int32.toInt64 p1) 0 4 u) (fun (r2 : Int32) (u1 : St) => if r2 = 0 then some ((-1), u1) else bd (pX7_docketGoes F 0 u1) (fun (_ : Unit) (u3 : St) => if 3 ≤ p1 then if p1 = 3 then some ((u3.1 19), u3) else some ((u3.1 20), u3) else bd (pX7_wonOn F 272 (p1 + 1) u3) (fun (r5 : Int32) (u4 : St) => some (r5, u4))))
set_option maxRecDepth 100000 in
set_option maxHeartbeats 4000000 in
theorem tX7_runs {l : Launch} {D : va_G} {cI cZ : ClassId} {ad : Nat → Nat} (F : Nat) (p1 : Int32) (u : St) : CtI l D [(cI, .int), (cZ, .boolean)] (wM ad cI cZ) E0 yX7_runs wsX7_runs ({ frames := 5, cells := 0, slots := 0, locals := 122 } : Room) [.ref (ad 0), .int p1] u (pX7_runs F p1 u) := by
  refine ctI_of (own := RX7) (cc := cX7_runs) (n := 2) (ret := (some .int)) (by decide) rfl rfl (Nat.le_of_ble_eq_true rfl) (lv := [(0, .ref (ad 0)), (1, .int p1)]) rfl (fun C => ?_)
  have iX7 : ∀ w ∈ wsX70, w ∈ wsX7_runs := fun w h => List.mem_cons_of_mem _ (List.mem_append_right _ (inlX7 w h))
  rw [pX7_runs]
  refine g_iload_n C 0 1 dX7_runs_0 rfl ?_
  refine g_i2l C 1 dX7_runs_1 ?_
  refine g_lconst C 2 0 dX7_runs_2 rfl ?_
  refine g_ldc2 C 3 4 (by decide +kernel) dX7_runs_3 ?_
  refine g_callSi (st := []) (As := [.long (Int32.toInt64 p1), .long 0, .long 4]) C E0_ok E0_vm 6 3 (tX7_in F (Int32.toInt64 p1) 0 4 u) rfl gX7_runs_X7_in rfl rfl rfl (by decide +kernel) ⟨Nat.le_of_ble_eq_true rfl, Nat.le_of_ble_eq_true rfl⟩ rfl (Nat.le_of_ble_eq_true rfl) dX7_runs_6 (fun r2 u1 => ?_)
  refine g_if_ne C 9 14 dX7_runs_9 (by decide) ?_ ?_
  · skip
    refine g_aload_n C 14 0 dX7_runs_14 rfl ?_
    refine g_iconst C 15 0 dX7_runs_15 rfl ?_
    refine g_callVv (st := []) (As := [.int 0]) C E0_ok E0_vm 16 0 1 (tX7_docketGoes F 0 u1) rfl gX7_runs_X7_docketGoes rfl rfl rfl (by decide +kernel) ⟨Nat.le_of_ble_eq_true rfl, Nat.le_of_ble_eq_true rfl⟩ rfl rfl rfl (Nat.le_of_ble_eq_true rfl) dX7_runs_16 (fun u3 => ?_)
    refine g_iload_n C 19 1 dX7_runs_19 rfl ?_
    refine g_iconst C 20 3 dX7_runs_20 rfl ?_
    refine g_icmp_ge C 21 37 dX7_runs_21 (by decide) ?_ ?_
    · skip
      refine g_iload_n C 37 1 dX7_runs_37 rfl ?_
      refine g_iconst C 38 3 dX7_runs_38 rfl ?_
      refine g_icmp_ne C 39 49 dX7_runs_39 (by decide) ?_ ?_
      · skip
        refine g_aload_n C 49 0 dX7_runs_49 rfl ?_
        refine gfM_X7_minutes C 50 iX7 (List.mem_cons_of_mem _ (List.mem_append_right _ wgL_30_17.1)) dX7_runs_50 ?_
        exact g_iret C 53 dX7_runs_53
      · skip
        refine g_aload_n C 42 0 dX7_runs_42 rfl ?_
        refine gfM_X7_firstNot C 43 iX7 (List.mem_cons_of_mem _ (List.mem_append_right _ wgL_30_16.1)) dX7_runs_43 ?_
        refine g_goto C 46 53 dX7_runs_46 (by decide) ?_
        exact g_iret C 53 dX7_runs_53
    · skip
      refine g_aload_n C 24 0 dX7_runs_24 rfl ?_
      refine g_sipush C 25 272 dX7_runs_25 rfl ?_
      refine g_iload_n C 28 1 dX7_runs_28 rfl ?_
      refine g_iconst C 29 1 dX7_runs_29 rfl ?_
      refine g_iadd C 30 dX7_runs_30 ?_
      refine g_callVi (st := []) (As := [.int 272, .int (p1 + 1)]) C E0_ok E0_vm 31 0 2 (tX7_wonOn F 272 (p1 + 1) u3) rfl gX7_runs_X7_wonOn rfl rfl rfl (by decide +kernel) ⟨Nat.le_of_ble_eq_true rfl, Nat.le_of_ble_eq_true rfl⟩ rfl rfl rfl (Nat.le_of_ble_eq_true rfl) dX7_runs_31 (fun r5 u4 => ?_)
      refine g_goto C 34 53 dX7_runs_34 (by decide) ?_
      exact g_iret C 53 dX7_runs_53
  · skip
    refine g_iconst C 12 (-1) dX7_runs_12 rfl ?_
    exact g_iret C 13 dX7_runs_13
def pX7_ahead (F : Nat) (p1 : Int32) (u : St) : Option (Int32 × St) :=
  bd (pX7_isCase F p1 u) (fun (r2 : Int32) (u1 : St) => if r2 = 0 then some ((-1), u1) else bd (pX7_docketGoes F 0 u1) (fun (_ : Unit) (u3 : St) => gd (inb (296 + p1) 408) (some ((u3.2 0 (Int32.toNatClampNeg (296 + p1))), u3))))
set_option maxRecDepth 100000 in
set_option maxHeartbeats 4000000 in
theorem tX7_ahead {l : Launch} {D : va_G} {cI cZ : ClassId} {ad : Nat → Nat} (F : Nat) (p1 : Int32) (u : St) : CtI l D [(cI, .int), (cZ, .boolean)] (wM ad cI cZ) E0 yX7_ahead wsX7_ahead ({ frames := 5, cells := 0, slots := 0, locals := 122 } : Room) [.ref (ad 0), .int p1] u (pX7_ahead F p1 u) := by
  refine ctI_of (own := RX7) (cc := cX7_ahead) (n := 2) (ret := (some .int)) (by decide) rfl rfl (Nat.le_of_ble_eq_true rfl) (lv := [(0, .ref (ad 0)), (1, .int p1)]) rfl (fun C => ?_)
  have iX7 : ∀ w ∈ wsX70, w ∈ wsX7_ahead := fun w h => List.mem_cons_of_mem _ (List.mem_append_right _ (inlX7 w h))
  rw [pX7_ahead]
  refine g_aload_n C 0 0 dX7_ahead_0 rfl ?_
  refine g_iload_n C 1 1 dX7_ahead_1 rfl ?_
  refine g_callVi (st := []) (As := [.int p1]) C E0_ok E0_vm 2 0 1 (tX7_isCase F p1 u) rfl gX7_ahead_X7_isCase rfl rfl rfl (by decide +kernel) ⟨Nat.le_of_ble_eq_true rfl, Nat.le_of_ble_eq_true rfl⟩ rfl rfl rfl (Nat.le_of_ble_eq_true rfl) dX7_ahead_2 (fun r2 u1 => ?_)
  refine g_if_ne C 5 10 dX7_ahead_5 (by decide) ?_ ?_
  · skip
    refine g_aload_n C 10 0 dX7_ahead_10 rfl ?_
    refine g_iconst C 11 0 dX7_ahead_11 rfl ?_
    refine g_callVv (st := []) (As := [.int 0]) C E0_ok E0_vm 12 0 1 (tX7_docketGoes F 0 u1) rfl gX7_ahead_X7_docketGoes rfl rfl rfl (by decide +kernel) ⟨Nat.le_of_ble_eq_true rfl, Nat.le_of_ble_eq_true rfl⟩ rfl rfl rfl (Nat.le_of_ble_eq_true rfl) dX7_ahead_12 (fun u3 => ?_)
    refine g_aload_n C 15 0 dX7_ahead_15 rfl ?_
    refine gfM_X7_state C 16 iX7 (List.mem_cons_of_mem _ (List.mem_append_right _ wgL_5_14.1)) dX7_ahead_16 ?_
    refine g_sipush C 19 296 dX7_ahead_19 rfl ?_
    refine g_iload_n C 22 1 dX7_ahead_22 rfl ?_
    refine g_iadd C 23 dX7_ahead_23 ?_
    refine g_iald C 24 (1 + 0) 0 (wM_arr 0 (by decide)) rfl dX7_ahead_24 ?_
    exact g_iret C 25 dX7_ahead_25
  · skip
    refine g_iconst C 8 (-1) dX7_ahead_8 rfl ?_
    exact g_iret C 9 dX7_ahead_9
def pX7_isWonBy (F : Nat) (p1 : Int32) (p2 : Int32) (p3 : Int32) (p4 : Int32) (u : St) : Option (Int32 × St) :=
  bd (pX7_tries F p1 p2 p4 u) (fun (r2 : Int32) (u1 : St) => if r2 = (p3 + 1) then some (1, u1) else some (0, u1))
set_option maxRecDepth 100000 in
set_option maxHeartbeats 4000000 in
theorem tX7_isWonBy {l : Launch} {D : va_G} {cI cZ : ClassId} {ad : Nat → Nat} (F : Nat) (p1 : Int32) (p2 : Int32) (p3 : Int32) (p4 : Int32) (u : St) : CtI l D [(cI, .int), (cZ, .boolean)] (wM ad cI cZ) E0 yX7_isWonBy wsX7_isWonBy ({ frames := 4, cells := 0, slots := 0, locals := 98 } : Room) [.ref (ad 0), .int p1, .int p2, .int p3, .int p4] u (pX7_isWonBy F p1 p2 p3 p4 u) := by
  refine ctI_of (own := RX7) (cc := cX7_isWonBy) (n := 5) (ret := (some .boolean)) (by decide) rfl rfl (Nat.le_of_ble_eq_true rfl) (lv := [(0, .ref (ad 0)), (1, .int p1), (2, .int p2), (3, .int p3), (4, .int p4)]) rfl (fun C => ?_)
  rw [pX7_isWonBy]
  refine g_aload_n C 0 0 dX7_isWonBy_0 rfl ?_
  refine g_iload_n C 1 1 dX7_isWonBy_1 rfl ?_
  refine g_iload_n C 2 2 dX7_isWonBy_2 rfl ?_
  refine g_iload C 3 4 dX7_isWonBy_3 rfl ?_
  refine g_callVi (st := []) (As := [.int p1, .int p2, .int p4]) C E0_ok E0_vm 5 0 3 (tX7_tries F p1 p2 p4 u) rfl gX7_isWonBy_X7_tries rfl rfl rfl (by decide +kernel) ⟨Nat.le_of_ble_eq_true rfl, Nat.le_of_ble_eq_true rfl⟩ rfl rfl rfl (Nat.le_of_ble_eq_true rfl) dX7_isWonBy_5 (fun r2 u1 => ?_)
  refine g_iload_n C 8 3 dX7_isWonBy_8 rfl ?_
  refine g_iconst C 9 1 dX7_isWonBy_9 rfl ?_
  refine g_iadd C 10 dX7_isWonBy_10 ?_
  refine g_icmp_ne C 11 18 dX7_isWonBy_11 (by decide) ?_ ?_
  · skip
    refine g_iconst C 18 0 dX7_isWonBy_18 rfl ?_
    exact g_nret C 19 rfl dX7_isWonBy_19
  · skip
    refine g_iconst C 14 1 dX7_isWonBy_14 rfl ?_
    refine g_goto C 15 19 dX7_isWonBy_15 (by decide) ?_
    exact g_nret C 19 rfl dX7_isWonBy_19
def bX7_friends_22 (F : Nat) (p1 : Int32) (p2 : Int32) (self8 : Int32 → Int32 → St → Option (Int32 × St)) (x5 : Int32) (x6 : Int32) (u7 : St) : Option (Int32 × St) :=
  if (u7.1 1) ≤ x6 then some (x5, u7) else bd (pX7_isWonBy F 0 p1 p2 x6 u7) (fun (r10 : Int32) (u9 : St) => jn (fun (a11 : Int32) (u12 : St) => vl (x5 ||| a11) (fun v13 => (self8 v13 (x6 + 1) u12))) (fun (J52 : Int32 → St → Option (Int32 × St)) => if r10 = 0 then (J52 0 u9) else (J52 (1 <<< (x6 &&& 31)) u9)))
def pX7_friends (F : Nat) (p1 : Int32) (p2 : Int32) (u : St) : Option (Int32 × St) :=
  bd (pX7_isCase F p1 u) (fun (r2 : Int32) (u1 : St) => if r2 = 0 then some ((-1), u1) else bd (pX7_isSide F p2 u1) (fun (r4 : Int32) (u3 : St) => if r4 = 0 then some ((-1), u3) else (lq2 (bX7_friends_22 F p1 p2) F 0 0 u3)))
set_option maxRecDepth 100000 in
set_option maxHeartbeats 4000000 in
theorem tX7_friends {l : Launch} {D : va_G} {cI cZ : ClassId} {ad : Nat → Nat} (F : Nat) (p1 : Int32) (p2 : Int32) (u : St) : CtI l D [(cI, .int), (cZ, .boolean)] (wM ad cI cZ) E0 yX7_friends wsX7_friends ({ frames := 5, cells := 0, slots := 0, locals := 122 } : Room) [.ref (ad 0), .int p1, .int p2] u (pX7_friends F p1 p2 u) := by
  refine ctI_of (own := RX7) (cc := cX7_friends) (n := 5) (ret := (some .int)) (by decide) rfl rfl (Nat.le_of_ble_eq_true rfl) (lv := [(0, .ref (ad 0)), (1, .int p1), (2, .int p2)]) rfl (fun C => ?_)
  have iX7 : ∀ w ∈ wsX70, w ∈ wsX7_friends := fun w h => List.mem_cons_of_mem _ (List.mem_append_right _ (inlX7 w h))
  rw [pX7_friends]
  refine g_aload_n C 0 0 dX7_friends_0 rfl ?_
  refine g_iload_n C 1 1 dX7_friends_1 rfl ?_
  refine g_callVi (st := []) (As := [.int p1]) C E0_ok E0_vm 2 0 1 (tX7_isCase F p1 u) rfl gX7_friends_X7_isCase rfl rfl rfl (by decide +kernel) ⟨Nat.le_of_ble_eq_true rfl, Nat.le_of_ble_eq_true rfl⟩ rfl rfl rfl (Nat.le_of_ble_eq_true rfl) dX7_friends_2 (fun r2 u1 => ?_)
  refine g_if_eq C 5 15 dX7_friends_5 (by decide) ?_ ?_
  · skip
    refine g_iconst C 15 (-1) dX7_friends_15 rfl ?_
    exact g_iret C 16 dX7_friends_16
  · skip
    refine g_iload_n C 8 2 dX7_friends_8 rfl ?_
    refine g_callSi (st := []) (As := [.int p2]) C E0_ok E0_vm 9 1 (tX7_isSide F p2 u1) rfl gX7_friends_X7_isSide rfl rfl rfl (by decide +kernel) ⟨Nat.le_of_ble_eq_true rfl, Nat.le_of_ble_eq_true rfl⟩ rfl (Nat.le_of_ble_eq_true rfl) dX7_friends_9 (fun r4 u3 => ?_)
    refine g_if_ne C 12 17 dX7_friends_12 (by decide) ?_ ?_
    · skip
      refine g_iconst C 17 0 dX7_friends_17 rfl ?_
      refine g_istore_n C 18 [(3, .int 0), (0, .ref (ad 0)), (1, .int p1), (2, .int p2)] dX7_friends_18 (by decide) rfl ?_
      refine g_iconst C 19 0 dX7_friends_19 rfl ?_
      refine g_istore C 20 [(4, .int 0), (3, .int 0), (0, .ref (ad 0)), (1, .int p1), (2, .int p2)] dX7_friends_20 (by decide) rfl ?_
      refine g_sub _ [2, 3, 4, 1, 0] rfl ?_
      refine g_lq2 (fun (x5 : Int32) (x6 : Int32) => [(0, .ref (ad 0)), (1, .int p1), (2, .int p2), (3, .int x5), (4, .int x6)]) (fun self8 hself8 x5 x6 u7 => ?_) F 0 0 u3
      rw [bX7_friends_22]
      refine g_iload C 22 4 dX7_friends_22 rfl ?_
      refine g_aload_n C 24 0 dX7_friends_24 rfl ?_
      refine gfM_X7_judgeMany C 25 iX7 (List.mem_cons_of_mem _ (List.mem_append_right _ wgL_15_17.1)) dX7_friends_25 ?_
      refine g_icmp_ge C 28 60 dX7_friends_28 (by decide) ?_ ?_
      · skip
        refine g_iload_n C 60 3 dX7_friends_60 rfl ?_
        exact g_iret C 61 dX7_friends_61
      · skip
        refine g_iload_n C 31 3 dX7_friends_31 rfl ?_
        refine g_aload_n C 32 0 dX7_friends_32 rfl ?_
        refine g_iconst C 33 0 dX7_friends_33 rfl ?_
        refine g_iload_n C 34 1 dX7_friends_34 rfl ?_
        refine g_iload_n C 35 2 dX7_friends_35 rfl ?_
        refine g_iload C 36 4 dX7_friends_36 rfl ?_
        refine g_callVi (st := [.int x5]) (As := [.int 0, .int p1, .int p2, .int x6]) C E0_ok E0_vm 38 0 4 (tX7_isWonBy F 0 p1 p2 x6 u7) rfl gX7_friends_X7_isWonBy rfl rfl rfl (by decide +kernel) ⟨Nat.le_of_ble_eq_true rfl, Nat.le_of_ble_eq_true rfl⟩ rfl rfl rfl (Nat.le_of_ble_eq_true rfl) dX7_friends_38 (fun r10 u9 => ?_)
        refine g_jn1 52 (fun (a11 : Int32) => [(0, .ref (ad 0)), (1, .int p1), (2, .int p2), (4, .int x6)]) (fun (a11 : Int32) => [.int a11, .int x5]) (fun a11 u12 => ?_) (fun J52 hJ52 => ?_)
        · skip
          refine g_ior C 52 dX7_friends_52 ?_
          refine g_istore_nV C 53 (fun v13 => [(3, .int v13), (0, .ref (ad 0)), (1, .int p1), (2, .int p2), (4, .int x6)]) dX7_friends_53 (by decide) (fun _ => rfl) (fun v13 => ?_)
          refine g_iinc C 54 4 [(4, .int (x6 + 1)), (3, .int v13), (0, .ref (ad 0)), (1, .int p1), (2, .int p2)] dX7_friends_54 rfl rfl (by decide) rfl ?_
          refine g_goto C 57 22 dX7_friends_57 (by decide) ?_
          exact g_sub _ [2, 3, 4, 1, 0] rfl (hself8 v13 (x6 + 1) u12)
        · skip
          refine g_if_eq C 41 51 dX7_friends_41 (by decide) ?_ ?_
          · skip
            refine g_iconst C 51 0 dX7_friends_51 rfl ?_
            exact g_sub _ [0, 1, 2, 4] rfl (hJ52 0 u9)
          · skip
            refine g_iconst C 44 1 dX7_friends_44 rfl ?_
            refine g_iload C 45 4 dX7_friends_45 rfl ?_
            refine g_ishl C 47 dX7_friends_47 ?_
            refine g_goto C 48 52 dX7_friends_48 (by decide) ?_
            exact g_sub _ [0, 1, 2, 4] rfl (hJ52 (1 <<< (x6 &&& 31)) u9)
    · skip
      refine g_iconst C 15 (-1) dX7_friends_15 rfl ?_
      exact g_iret C 16 dX7_friends_16
def bX7_leastOf_21 (F : Nat) (p1 : Int32) (p2 : Int32) (p3 : Int32) (p4 : Int32) (p5 : Int32) (self7 : Int32 → St → Option (Int32 × St)) (x5 : Int32) (u6 : St) : Option (Int32 × St) :=
  if p5 < x5 then some ((-4), u6) else bd (pX7_copies F 0 340 u6) (fun (_ : Unit) (u8 : St) => gd (inb (((340 + p4) + (2 * p1)) + p2) 408) (vl (sta u8 0 (((340 + p4) + (2 * p1)) + p2) x5) (fun (u9 : St) => bd (pX7_isWonBy F 340 p1 p2 p3 u9) (fun (r11 : Int32) (u10 : St) => if r11 = 0 then (self7 (x5 + 1) u10) else some (x5, u10)))))
def pX7_leastOf (F : Nat) (p1 : Int32) (p2 : Int32) (p3 : Int32) (p4 : Int32) (p5 : Int32) (u : St) : Option (Int32 × St) :=
  bd (pX7_isHeard F p1 p3 u) (fun (r2 : Int32) (u1 : St) => if r2 = 0 then some ((-1), u1) else bd (pX7_isSide F p2 u1) (fun (r4 : Int32) (u3 : St) => if r4 = 0 then some ((-1), u3) else (lq1 (bX7_leastOf_21 F p1 p2 p3 p4 p5) F 0 u3)))
set_option maxRecDepth 100000 in
set_option maxHeartbeats 4000000 in
theorem tX7_leastOf {l : Launch} {D : va_G} {cI cZ : ClassId} {ad : Nat → Nat} (F : Nat) (p1 : Int32) (p2 : Int32) (p3 : Int32) (p4 : Int32) (p5 : Int32) (u : St) : CtI l D [(cI, .int), (cZ, .boolean)] (wM ad cI cZ) E0 yX7_leastOf wsX7_leastOf ({ frames := 5, cells := 0, slots := 0, locals := 122 } : Room) [.ref (ad 0), .int p1, .int p2, .int p3, .int p4, .int p5] u (pX7_leastOf F p1 p2 p3 p4 p5 u) := by
  refine ctI_of (own := RX7) (cc := cX7_leastOf) (n := 7) (ret := (some .int)) (by decide) rfl rfl (Nat.le_of_ble_eq_true rfl) (lv := [(0, .ref (ad 0)), (1, .int p1), (2, .int p2), (3, .int p3), (4, .int p4), (5, .int p5)]) rfl (fun C => ?_)
  have iX7 : ∀ w ∈ wsX70, w ∈ wsX7_leastOf := fun w h => List.mem_cons_of_mem _ (List.mem_append_right _ (inlX7 w h))
  rw [pX7_leastOf]
  refine g_aload_n C 0 0 dX7_leastOf_0 rfl ?_
  refine g_iload_n C 1 1 dX7_leastOf_1 rfl ?_
  refine g_iload_n C 2 3 dX7_leastOf_2 rfl ?_
  refine g_callVi (st := []) (As := [.int p1, .int p3]) C E0_ok E0_vm 3 0 2 (tX7_isHeard F p1 p3 u) rfl gX7_leastOf_X7_isHeard rfl rfl rfl (by decide +kernel) ⟨Nat.le_of_ble_eq_true rfl, Nat.le_of_ble_eq_true rfl⟩ rfl rfl rfl (Nat.le_of_ble_eq_true rfl) dX7_leastOf_3 (fun r2 u1 => ?_)
  refine g_if_eq C 6 16 dX7_leastOf_6 (by decide) ?_ ?_
  · skip
    refine g_iconst C 16 (-1) dX7_leastOf_16 rfl ?_
    exact g_iret C 17 dX7_leastOf_17
  · skip
    refine g_iload_n C 9 2 dX7_leastOf_9 rfl ?_
    refine g_callSi (st := []) (As := [.int p2]) C E0_ok E0_vm 10 1 (tX7_isSide F p2 u1) rfl gX7_leastOf_X7_isSide rfl rfl rfl (by decide +kernel) ⟨Nat.le_of_ble_eq_true rfl, Nat.le_of_ble_eq_true rfl⟩ rfl (Nat.le_of_ble_eq_true rfl) dX7_leastOf_10 (fun r4 u3 => ?_)
    refine g_if_ne C 13 18 dX7_leastOf_13 (by decide) ?_ ?_
    · skip
      refine g_iconst C 18 0 dX7_leastOf_18 rfl ?_
      refine g_istore C 19 [(6, .int 0), (0, .ref (ad 0)), (1, .int p1), (2, .int p2), (3, .int p3), (4, .int p4), (5, .int p5)] dX7_leastOf_19 (by decide) rfl ?_
      refine g_sub _ [1, 2, 3, 4, 5, 6, 0] rfl ?_
      refine g_lq1 (fun (x5 : Int32) => [(0, .ref (ad 0)), (1, .int p1), (2, .int p2), (3, .int p3), (4, .int p4), (5, .int p5), (6, .int x5)]) (fun self7 hself7 x5 u6 => ?_) F 0 u3
      rw [bX7_leastOf_21]
      refine g_iload C 21 6 dX7_leastOf_21 rfl ?_
      refine g_iload C 23 5 dX7_leastOf_23 rfl ?_
      refine g_icmp_gt C 25 77 dX7_leastOf_25 (by decide) ?_ ?_
      · skip
        refine g_bipush C 77 (-4) dX7_leastOf_77 rfl ?_
        exact g_iret C 79 dX7_leastOf_79
      · skip
        refine g_aload_n C 28 0 dX7_leastOf_28 rfl ?_
        refine g_iconst C 29 0 dX7_leastOf_29 rfl ?_
        refine g_sipush C 30 340 dX7_leastOf_30 rfl ?_
        refine g_callVv (st := []) (As := [.int 0, .int 340]) C E0_ok E0_vm 33 0 2 (tX7_copies F 0 340 u6) rfl gX7_leastOf_X7_copies rfl rfl rfl (by decide +kernel) ⟨Nat.le_of_ble_eq_true rfl, Nat.le_of_ble_eq_true rfl⟩ rfl rfl rfl (Nat.le_of_ble_eq_true rfl) dX7_leastOf_33 (fun u8 => ?_)
        refine g_aload_n C 36 0 dX7_leastOf_36 rfl ?_
        refine gfM_X7_state C 37 iX7 (List.mem_cons_of_mem _ (List.mem_append_right _ wgL_5_14.1)) dX7_leastOf_37 ?_
        refine g_sipush C 40 340 dX7_leastOf_40 rfl ?_
        refine g_iload C 43 4 dX7_leastOf_43 rfl ?_
        refine g_iadd C 45 dX7_leastOf_45 ?_
        refine g_iconst C 46 2 dX7_leastOf_46 rfl ?_
        refine g_iload_n C 47 1 dX7_leastOf_47 rfl ?_
        refine g_imul C 48 dX7_leastOf_48 ?_
        refine g_iadd C 49 dX7_leastOf_49 ?_
        refine g_iload_n C 50 2 dX7_leastOf_50 rfl ?_
        refine g_iadd C 51 dX7_leastOf_51 ?_
        refine g_iload C 52 6 dX7_leastOf_52 rfl ?_
        refine g_iast C 54 (1 + 0) 0 0 (wM_arr 0 (by decide)) (wM_aset 0 (by decide)) rfl dX7_leastOf_54 (fun u9 => ?_)
        refine g_aload_n C 55 0 dX7_leastOf_55 rfl ?_
        refine g_sipush C 56 340 dX7_leastOf_56 rfl ?_
        refine g_iload_n C 59 1 dX7_leastOf_59 rfl ?_
        refine g_iload_n C 60 2 dX7_leastOf_60 rfl ?_
        refine g_iload_n C 61 3 dX7_leastOf_61 rfl ?_
        refine g_callVi (st := []) (As := [.int 340, .int p1, .int p2, .int p3]) C E0_ok E0_vm 62 0 4 (tX7_isWonBy F 340 p1 p2 p3 u9) rfl gX7_leastOf_X7_isWonBy rfl rfl rfl (by decide +kernel) ⟨Nat.le_of_ble_eq_true rfl, Nat.le_of_ble_eq_true rfl⟩ rfl rfl rfl (Nat.le_of_ble_eq_true rfl) dX7_leastOf_62 (fun r11 u10 => ?_)
        refine g_if_eq C 65 71 dX7_leastOf_65 (by decide) ?_ ?_
        · skip
          refine g_iinc C 71 6 [(6, .int (x5 + 1)), (0, .ref (ad 0)), (1, .int p1), (2, .int p2), (3, .int p3), (4, .int p4), (5, .int p5)] dX7_leastOf_71 rfl rfl (by decide) rfl ?_
          refine g_goto C 74 21 dX7_leastOf_74 (by decide) ?_
          exact g_sub _ [1, 2, 3, 4, 5, 6, 0] rfl (hself7 (x5 + 1) u10)
        · skip
          refine g_iload C 68 6 dX7_leastOf_68 rfl ?_
          exact g_iret C 70 dX7_leastOf_70
    · skip
      refine g_iconst C 16 (-1) dX7_leastOf_16 rfl ?_
      exact g_iret C 17 dX7_leastOf_17
def pX7_wax (F : Nat) (p1 : Int32) (p2 : Int32) (p3 : Int32) (u : St) : Option (Int32 × St) :=
  bd (pX7_leastOf F p1 p2 p3 0 3 u) (fun (r2 : Int32) (u1 : St) => some (r2, u1))
set_option maxRecDepth 100000 in
set_option maxHeartbeats 4000000 in
theorem tX7_wax {l : Launch} {D : va_G} {cI cZ : ClassId} {ad : Nat → Nat} (F : Nat) (p1 : Int32) (p2 : Int32) (p3 : Int32) (u : St) : CtI l D [(cI, .int), (cZ, .boolean)] (wM ad cI cZ) E0 yX7_wax wsX7_wax ({ frames := 6, cells := 0, slots := 0, locals := 148 } : Room) [.ref (ad 0), .int p1, .int p2, .int p3] u (pX7_wax F p1 p2 p3 u) := by
  refine ctI_of (own := RX7) (cc := cX7_wax) (n := 4) (ret := (some .int)) (by decide) rfl rfl (Nat.le_of_ble_eq_true rfl) (lv := [(0, .ref (ad 0)), (1, .int p1), (2, .int p2), (3, .int p3)]) rfl (fun C => ?_)
  rw [pX7_wax]
  refine g_aload_n C 0 0 dX7_wax_0 rfl ?_
  refine g_iload_n C 1 1 dX7_wax_1 rfl ?_
  refine g_iload_n C 2 2 dX7_wax_2 rfl ?_
  refine g_iload_n C 3 3 dX7_wax_3 rfl ?_
  refine g_iconst C 4 0 dX7_wax_4 rfl ?_
  refine g_iconst C 5 3 dX7_wax_5 rfl ?_
  refine g_callVi (st := []) (As := [.int p1, .int p2, .int p3, .int 0, .int 3]) C E0_ok E0_vm 6 0 5 (tX7_leastOf F p1 p2 p3 0 3 u) rfl gX7_wax_X7_leastOf rfl rfl rfl (by decide +kernel) ⟨Nat.le_of_ble_eq_true rfl, Nat.le_of_ble_eq_true rfl⟩ rfl rfl rfl (Nat.le_of_ble_eq_true rfl) dX7_wax_6 (fun r2 u1 => ?_)
  exact g_iret C 9 dX7_wax_9
def pX7_least (F : Nat) (p1 : Int32) (p2 : Int32) (p3 : Int32) (u : St) : Option (Int32 × St) :=
  bd (pX7_leastOf F p1 p2 p3 8 99 u) (fun (r2 : Int32) (u1 : St) => some (r2, u1))
set_option maxRecDepth 100000 in
set_option maxHeartbeats 4000000 in
theorem tX7_least {l : Launch} {D : va_G} {cI cZ : ClassId} {ad : Nat → Nat} (F : Nat) (p1 : Int32) (p2 : Int32) (p3 : Int32) (u : St) : CtI l D [(cI, .int), (cZ, .boolean)] (wM ad cI cZ) E0 yX7_least wsX7_least ({ frames := 6, cells := 0, slots := 0, locals := 148 } : Room) [.ref (ad 0), .int p1, .int p2, .int p3] u (pX7_least F p1 p2 p3 u) := by
  refine ctI_of (own := RX7) (cc := cX7_least) (n := 4) (ret := (some .int)) (by decide) rfl rfl (Nat.le_of_ble_eq_true rfl) (lv := [(0, .ref (ad 0)), (1, .int p1), (2, .int p2), (3, .int p3)]) rfl (fun C => ?_)
  rw [pX7_least]
  refine g_aload_n C 0 0 dX7_least_0 rfl ?_
  refine g_iload_n C 1 1 dX7_least_1 rfl ?_
  refine g_iload_n C 2 2 dX7_least_2 rfl ?_
  refine g_iload_n C 3 3 dX7_least_3 rfl ?_
  refine g_bipush C 4 8 dX7_least_4 rfl ?_
  refine g_bipush C 6 99 dX7_least_6 rfl ?_
  refine g_callVi (st := []) (As := [.int p1, .int p2, .int p3, .int 8, .int 99]) C E0_ok E0_vm 8 0 5 (tX7_leastOf F p1 p2 p3 8 99 u) rfl gX7_least_X7_leastOf rfl rfl rfl (by decide +kernel) ⟨Nat.le_of_ble_eq_true rfl, Nat.le_of_ble_eq_true rfl⟩ rfl rfl rfl (Nat.le_of_ble_eq_true rfl) dX7_least_8 (fun r2 u1 => ?_)
  exact g_iret C 11 dX7_least_11
end
