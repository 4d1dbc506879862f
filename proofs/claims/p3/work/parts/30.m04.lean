def jX7_byAway_155 (F : Nat) (p5 : Int32) (a1 : Int64) (a3 : Int64) (u4 : St) : Option (Int64 × St) :=
  vl (stf u4 15 0) (fun (u5 : St) => bd (pX7_lowest F a3 a1 p5 u5) (fun (r7 : Int64) (u6 : St) => some (r7, u6)))
def jX7_byAway_102 (F : Nat) (p2 : Int32) (p3 : Int32) (p4 : Int32) (x8 : Int64) (x9 : Int32) (self11 : Int64 → Int32 → St → Option (Int64 × St)) (a12 : Int64) (u13 : St) : Option (Int64 × St) :=
  vl (stf u13 15 x9) (fun (u14 : St) => jn (fun (a15 : Int32) (u16 : St) => vl (x8 + (a12 * (Int32.toInt64 a15))) (fun v17 => (self11 v17 (x9 + 1) u16))) (fun (J144 : Int32 → St → Option (Int64 × St)) => if p2 = (-4) then bd (pX7_wonThen F 0 p3 u14) (fun (r21 : Int32) (u20 : St) => (J144 r21 u20)) else bd (pX7_isWonBy F 0 p2 p3 p4 u14) (fun (r19 : Int32) (u18 : St) => if r19 = 0 then (J144 0 u18) else (J144 1 u18))))
def bX7_byAway_58 (F : Nat) (p1 : Int32) (x9 : Int32) (J102 : Int64 → St → Option (Int64 × St)) (self25 : Int64 → Int32 → St → Option (Int64 × St)) (x22 : Int64) (x23 : Int32) (u24 : St) : Option (Int64 × St) :=
  gd (inb 46 408) (if (u24.2 0 (Int32.toNatClampNeg 46)) ≤ x23 then (J102 x22 u24) else jn (fun (a26 : Int64) (u27 : St) => vl (x22 * a26) (fun v28 => (self25 v28 (x23 + 1) u27))) (fun (J93 : Int64 → St → Option (Int64 × St)) => if ((x9 >>> (x23 &&& 31)) &&& 1) = 1 then (J93 (Int32.toInt64 p1) u24) else (J93 (Int32.toInt64 (10 - p1)) u24)))
def bX7_byAway_38 (F : Nat) (p1 : Int32) (p2 : Int32) (p3 : Int32) (p4 : Int32) (J155 : Int64 → St → Option (Int64 × St)) (self11 : Int64 → Int32 → St → Option (Int64 × St)) (x8 : Int64) (x9 : Int32) (u10 : St) : Option (Int64 × St) :=
  gd (inb 46 408) (if (1 <<< ((u10.2 0 (Int32.toNatClampNeg 46)) &&& 31)) ≤ x9 then (J155 x8 u10) else jn (jX7_byAway_102 F p2 p3 p4 x8 x9 self11) (fun (J102 : Int64 → St → Option (Int64 × St)) => (lq2 (bX7_byAway_58 F p1 x9 J102) F 1 0 u10)))
def jX7_byAway_35 (F : Nat) (p1 : Int32) (p2 : Int32) (p3 : Int32) (p4 : Int32) (p5 : Int32) (a1 : Int64) (u2 : St) : Option (Int64 × St) :=
  jn (jX7_byAway_155 F p5 a1) (fun (J155 : Int64 → St → Option (Int64 × St)) => (lq2 (bX7_byAway_38 F p1 p2 p3 p4 J155) F 0 0 u2))
def bX7_byAway_9 (F : Nat) (J35 : Int64 → St → Option (Int64 × St)) (self32 : Int64 → Int32 → St → Option (Int64 × St)) (x29 : Int64) (x30 : Int32) (u31 : St) : Option (Int64 × St) :=
  gd (inb 46 408) (if (u31.2 0 (Int32.toNatClampNeg 46)) ≤ x30 then (J35 x29 u31) else vl (x29 * 10) (fun v33 => (self32 v33 (x30 + 1) u31)))
def pX7_byAway (F : Nat) (p1 : Int32) (p2 : Int32) (p3 : Int32) (p4 : Int32) (p5 : Int32) (u : St) : Option (Int64 × St) :=
  jn (jX7_byAway_35 F p1 p2 p3 p4 p5) (fun (J35 : Int64 → St → Option (Int64 × St)) => (lq2 (bX7_byAway_9 F J35) F 1 0 u))
set_option maxRecDepth 100000 in
set_option maxHeartbeats 4000000 in
theorem tX7_byAway {l : Launch} {D : va_G} {cI cZ : ClassId} {ad : Nat → Nat} (F : Nat) (p1 : Int32) (p2 : Int32) (p3 : Int32) (p4 : Int32) (p5 : Int32) (u : St) : CtL l D [(cI, .int), (cZ, .boolean)] (wM ad cI cZ) E0 yX7_byAway wsX7_byAway ({ frames := 6, cells := 0, slots := 0, locals := 144 } : Room) [.ref (ad 0), .int p1, .int p2, .int p3, .int p4, .int p5] u (pX7_byAway F p1 p2 p3 p4 p5 u) := by
  refine ctL_of (own := RX7) (cc := cX7_byAway) (n := 14) (ret := (some .long)) (by decide) rfl rfl (Nat.le_of_ble_eq_true rfl) (lv := [(0, .ref (ad 0)), (1, .int p1), (2, .int p2), (3, .int p3), (4, .int p4), (5, .int p5)]) rfl (fun C => ?_)
  have iX7 : ∀ w ∈ wsX70, w ∈ wsX7_byAway := fun w h => List.mem_cons_of_mem _ (List.mem_append_right _ (inlX7 w h))
  rw [pX7_byAway]
  refine g_lconst C 0 0 dX7_byAway_0 rfl ?_
  refine g_lstore C 1 [(6, .long 0), (0, .ref (ad 0)), (1, .int p1), (2, .int p2), (3, .int p3), (4, .int p4), (5, .int p5)] dX7_byAway_1 (by decide) rfl ?_
  refine g_lconst C 3 1 dX7_byAway_3 rfl ?_
  refine g_lstore C 4 [(8, .long 1), (6, .long 0), (0, .ref (ad 0)), (1, .int p1), (2, .int p2), (3, .int p3), (4, .int p4), (5, .int p5)] dX7_byAway_4 (by decide) rfl ?_
  refine g_iconst C 6 0 dX7_byAway_6 rfl ?_
  refine g_istore C 7 [(10, .int 0), (8, .long 1), (6, .long 0), (0, .ref (ad 0)), (1, .int p1), (2, .int p2), (3, .int p3), (4, .int p4), (5, .int p5)] dX7_byAway_7 (by decide) rfl ?_
  refine g_jn1 35 (fun (a1 : Int64) => [(0, .ref (ad 0)), (1, .int p1), (2, .int p2), (3, .int p3), (4, .int p4), (5, .int p5), (6, .long 0), (8, .long a1)]) (fun (a1 : Int64) => []) (fun a1 u2 => ?_) (fun J35 hJ35 => ?_)
  · skip
    rw [jX7_byAway_35]
    refine g_iconst C 35 0 dX7_byAway_35 rfl ?_
    refine g_istore C 36 [(10, .int 0), (0, .ref (ad 0)), (1, .int p1), (2, .int p2), (3, .int p3), (4, .int p4), (5, .int p5), (6, .long 0), (8, .long a1)] dX7_byAway_36 (by decide) rfl ?_
    refine g_jn1 155 (fun (a3 : Int64) => [(0, .ref (ad 0)), (5, .int p5), (6, .long a3), (8, .long a1)]) (fun (a3 : Int64) => []) (fun a3 u4 => ?_) (fun J155 hJ155 => ?_)
    · skip
      rw [jX7_byAway_155]
      refine g_aload_n C 155 0 dX7_byAway_155 rfl ?_
      refine g_iconst C 156 0 dX7_byAway_156 rfl ?_
      refine pfM_X7_away C 157 iX7 (List.mem_cons_of_mem _ (List.mem_append_right _ wgL_28_3.1)) dX7_byAway_157 (fun u5 => ?_)
      refine g_lload C 160 2 dX7_byAway_160 rfl ?_
      refine g_lload C 162 3 dX7_byAway_162 rfl ?_
      refine g_iload C 164 1 dX7_byAway_164 rfl ?_
      refine g_callSl (st := []) (As := [.long a3, .long a1, .int p5]) C E0_ok E0_vm 166 3 (tX7_lowest F a3 a1 p5 u5) rfl gX7_byAway_X7_lowest rfl rfl rfl (by decide +kernel) ⟨Nat.le_of_ble_eq_true rfl, Nat.le_of_ble_eq_true rfl⟩ rfl (Nat.le_of_ble_eq_true rfl) dX7_byAway_166 (fun r7 u6 => ?_)
      exact g_lret C 169 dX7_byAway_169
    · skip
      refine g_sub _ [1, 2, 3, 4, 5, 6, 7, 8, 0] rfl ?_
      refine g_lq2 (fun (x8 : Int64) (x9 : Int32) => [(0, .ref (ad 0)), (1, .int p1), (2, .int p2), (3, .int p3), (4, .int p4), (5, .int p5), (6, .long x8), (8, .long a1), (10, .int x9)]) (fun self11 hself11 x8 x9 u10 => ?_) F 0 0 u2
      rw [bX7_byAway_38]
      refine g_iload C 38 8 dX7_byAway_38 rfl ?_
      refine g_iconst C 40 1 dX7_byAway_40 rfl ?_
      refine g_aload_n C 41 0 dX7_byAway_41 rfl ?_
      refine gfM_X7_state C 42 iX7 (List.mem_cons_of_mem _ (List.mem_append_right _ wgL_5_14.1)) dX7_byAway_42 ?_
      refine g_bipush C 45 46 dX7_byAway_45 rfl ?_
      refine g_iald C 47 (1 + 0) 0 (wM_arr 0 (by decide)) rfl dX7_byAway_47 ?_
      refine g_ishl C 48 dX7_byAway_48 ?_
      refine g_icmp_ge C 49 155 dX7_byAway_49 (by decide) ?_ ?_
      · skip
        exact g_sub _ [0, 5, 6, 7] rfl (hJ155 x8 u10)
      · skip
        refine g_lconst C 52 1 dX7_byAway_52 rfl ?_
        refine g_lstore C 53 [(11, .long 1), (0, .ref (ad 0)), (1, .int p1), (2, .int p2), (3, .int p3), (4, .int p4), (5, .int p5), (6, .long x8), (8, .long a1), (10, .int x9)] dX7_byAway_53 (by decide) rfl ?_
        refine g_iconst C 55 0 dX7_byAway_55 rfl ?_
        refine g_istore C 56 [(13, .int 0), (11, .long 1), (0, .ref (ad 0)), (1, .int p1), (2, .int p2), (3, .int p3), (4, .int p4), (5, .int p5), (6, .long x8), (8, .long a1), (10, .int x9)] dX7_byAway_56 (by decide) rfl ?_
        refine g_jn1 102 (fun (a12 : Int64) => [(0, .ref (ad 0)), (1, .int p1), (2, .int p2), (3, .int p3), (4, .int p4), (5, .int p5), (6, .long x8), (8, .long a1), (10, .int x9), (11, .long a12)]) (fun (a12 : Int64) => []) (fun a12 u13 => ?_) (fun J102 hJ102 => ?_)
        · skip
          rw [jX7_byAway_102]
          refine g_aload_n C 102 0 dX7_byAway_102 rfl ?_
          refine g_iload C 103 8 dX7_byAway_103 rfl ?_
          refine pfM_X7_away C 105 iX7 (List.mem_cons_of_mem _ (List.mem_append_right _ wgL_28_3.1)) dX7_byAway_105 (fun u14 => ?_)
          refine g_lload C 108 6 dX7_byAway_108 rfl ?_
          refine g_lload C 110 9 dX7_byAway_110 rfl ?_
          refine g_iload_n C 112 2 dX7_byAway_112 rfl ?_
          refine g_bipush C 113 (-4) dX7_byAway_113 rfl ?_
          refine g_jn1 144 (fun (a15 : Int32) => [(0, .ref (ad 0)), (1, .int p1), (2, .int p2), (3, .int p3), (4, .int p4), (5, .int p5), (8, .long a1), (10, .int x9)]) (fun (a15 : Int32) => [.int a15, .long a12, .long x8]) (fun a15 u16 => ?_) (fun J144 hJ144 => ?_)
          · skip
            refine g_i2l C 144 dX7_byAway_144 ?_
            refine g_lmul C 145 dX7_byAway_145 ?_
            refine g_ladd C 146 dX7_byAway_146 ?_
            refine g_lstoreV C 147 (fun v17 => [(6, .long v17), (0, .ref (ad 0)), (1, .int p1), (2, .int p2), (3, .int p3), (4, .int p4), (5, .int p5), (8, .long a1), (10, .int x9)]) dX7_byAway_147 (by decide) (fun _ => rfl) (fun v17 => ?_)
            refine g_iinc C 149 8 [(10, .int (x9 + 1)), (6, .long v17), (0, .ref (ad 0)), (1, .int p1), (2, .int p2), (3, .int p3), (4, .int p4), (5, .int p5), (8, .long a1)] dX7_byAway_149 rfl rfl (by decide) rfl ?_
            refine g_goto C 152 38 dX7_byAway_152 (by decide) ?_
            exact g_sub _ [2, 3, 4, 5, 6, 7, 1, 8, 0] rfl (hself11 v17 (x9 + 1) u16)
          · skip
            refine g_icmp_ne C 115 127 dX7_byAway_115 (by decide) ?_ ?_
            · skip
              refine g_aload_n C 127 0 dX7_byAway_127 rfl ?_
              refine g_iconst C 128 0 dX7_byAway_128 rfl ?_
              refine g_iload_n C 129 2 dX7_byAway_129 rfl ?_
              refine g_iload_n C 130 3 dX7_byAway_130 rfl ?_
              refine g_iload C 131 4 dX7_byAway_131 rfl ?_
              refine g_callVi (st := [.long a12, .long x8]) (As := [.int 0, .int p2, .int p3, .int p4]) C E0_ok E0_vm 133 0 4 (tX7_isWonBy F 0 p2 p3 p4 u14) rfl gX7_byAway_X7_isWonBy rfl rfl rfl (by decide +kernel) ⟨Nat.le_of_ble_eq_true rfl, Nat.le_of_ble_eq_true rfl⟩ rfl rfl rfl (Nat.le_of_ble_eq_true rfl) dX7_byAway_133 (fun r19 u18 => ?_)
              refine g_if_eq C 136 143 dX7_byAway_136 (by decide) ?_ ?_
              · skip
                refine g_iconst C 143 0 dX7_byAway_143 rfl ?_
                exact g_sub _ [0, 1, 2, 3, 4, 5, 7, 8] rfl (hJ144 0 u18)
              · skip
                refine g_iconst C 139 1 dX7_byAway_139 rfl ?_
                refine g_goto C 140 144 dX7_byAway_140 (by decide) ?_
                exact g_sub _ [0, 1, 2, 3, 4, 5, 7, 8] rfl (hJ144 1 u18)
            · skip
              refine g_aload_n C 118 0 dX7_byAway_118 rfl ?_
              refine g_iconst C 119 0 dX7_byAway_119 rfl ?_
              refine g_iload_n C 120 3 dX7_byAway_120 rfl ?_
              refine g_callVi (st := [.long a12, .long x8]) (As := [.int 0, .int p3]) C E0_ok E0_vm 121 0 2 (tX7_wonThen F 0 p3 u14) rfl gX7_byAway_X7_wonThen rfl rfl rfl (by decide +kernel) ⟨Nat.le_of_ble_eq_true rfl, Nat.le_of_ble_eq_true rfl⟩ rfl rfl rfl (Nat.le_of_ble_eq_true rfl) dX7_byAway_121 (fun r21 u20 => ?_)
              refine g_goto C 124 144 dX7_byAway_124 (by decide) ?_
              exact g_sub _ [0, 1, 2, 3, 4, 5, 7, 8] rfl (hJ144 r21 u20)
        · skip
          refine g_sub _ [2, 3, 4, 5, 6, 7, 8, 9, 10, 1, 0] rfl ?_
          refine g_lq2 (fun (x22 : Int64) (x23 : Int32) => [(0, .ref (ad 0)), (1, .int p1), (2, .int p2), (3, .int p3), (4, .int p4), (5, .int p5), (6, .long x8), (8, .long a1), (10, .int x9), (11, .long x22), (13, .int x23)]) (fun self25 hself25 x22 x23 u24 => ?_) F 1 0 u10
          rw [bX7_byAway_58]
          refine g_iload C 58 10 dX7_byAway_58 rfl ?_
          refine g_aload_n C 60 0 dX7_byAway_60 rfl ?_
          refine gfM_X7_state C 61 iX7 (List.mem_cons_of_mem _ (List.mem_append_right _ wgL_5_14.1)) dX7_byAway_61 ?_
          refine g_bipush C 64 46 dX7_byAway_64 rfl ?_
          refine g_iald C 66 (1 + 0) 0 (wM_arr 0 (by decide)) rfl dX7_byAway_66 ?_
          refine g_icmp_ge C 67 102 dX7_byAway_67 (by decide) ?_ ?_
          · skip
            exact g_sub _ [0, 1, 2, 3, 4, 5, 6, 7, 8, 9] rfl (hJ102 x22 u24)
          · skip
            refine g_lload C 70 9 dX7_byAway_70 rfl ?_
            refine g_iload C 72 8 dX7_byAway_72 rfl ?_
            refine g_iload C 74 10 dX7_byAway_74 rfl ?_
            refine g_ishr C 76 dX7_byAway_76 ?_
            refine g_iconst C 77 1 dX7_byAway_77 rfl ?_
            refine g_iand C 78 dX7_byAway_78 ?_
            refine g_iconst C 79 1 dX7_byAway_79 rfl ?_
            refine g_jn1 93 (fun (a26 : Int64) => [(0, .ref (ad 0)), (1, .int p1), (2, .int p2), (3, .int p3), (4, .int p4), (5, .int p5), (6, .long x8), (8, .long a1), (10, .int x9), (13, .int x23)]) (fun (a26 : Int64) => [.long a26, .long x22]) (fun a26 u27 => ?_) (fun J93 hJ93 => ?_)
            · skip
              refine g_lmul C 93 dX7_byAway_93 ?_
              refine g_lstoreV C 94 (fun v28 => [(11, .long v28), (0, .ref (ad 0)), (1, .int p1), (2, .int p2), (3, .int p3), (4, .int p4), (5, .int p5), (6, .long x8), (8, .long a1), (10, .int x9), (13, .int x23)]) dX7_byAway_94 (by decide) (fun _ => rfl) (fun v28 => ?_)
              refine g_iinc C 96 10 [(13, .int (x23 + 1)), (11, .long v28), (0, .ref (ad 0)), (1, .int p1), (2, .int p2), (3, .int p3), (4, .int p4), (5, .int p5), (6, .long x8), (8, .long a1), (10, .int x9)] dX7_byAway_96 rfl rfl (by decide) rfl ?_
              refine g_goto C 99 58 dX7_byAway_99 (by decide) ?_
              exact g_sub _ [2, 3, 4, 5, 6, 7, 8, 9, 10, 1, 0] rfl (hself25 v28 (x23 + 1) u27)
            · skip
              refine g_icmp_ne C 80 88 dX7_byAway_80 (by decide) ?_ ?_
              · skip
                refine g_bipush C 88 10 dX7_byAway_88 rfl ?_
                refine g_iload_n C 90 1 dX7_byAway_90 rfl ?_
                refine g_isub C 91 dX7_byAway_91 ?_
                refine g_i2l C 92 dX7_byAway_92 ?_
                exact g_sub _ [0, 1, 2, 3, 4, 5, 6, 7, 8, 10] rfl (hJ93 (Int32.toInt64 (10 - p1)) u24)
              · skip
                refine g_iload_n C 83 1 dX7_byAway_83 rfl ?_
                refine g_i2l C 84 dX7_byAway_84 ?_
                refine g_goto C 85 93 dX7_byAway_85 (by decide) ?_
                exact g_sub _ [0, 1, 2, 3, 4, 5, 6, 7, 8, 10] rfl (hJ93 (Int32.toInt64 p1) u24)
  · skip
    refine g_sub _ [3, 4, 5, 6, 7, 8, 2, 1, 0] rfl ?_
    refine g_lq2 (fun (x29 : Int64) (x30 : Int32) => [(0, .ref (ad 0)), (1, .int p1), (2, .int p2), (3, .int p3), (4, .int p4), (5, .int p5), (6, .long 0), (8, .long x29), (10, .int x30)]) (fun self32 hself32 x29 x30 u31 => ?_) F 1 0 u
    rw [bX7_byAway_9]
    refine g_iload C 9 8 dX7_byAway_9 rfl ?_
    refine g_aload_n C 11 0 dX7_byAway_11 rfl ?_
    refine gfM_X7_state C 12 iX7 (List.mem_cons_of_mem _ (List.mem_append_right _ wgL_5_14.1)) dX7_byAway_12 ?_
    refine g_bipush C 15 46 dX7_byAway_15 rfl ?_
    refine g_iald C 17 (1 + 0) 0 (wM_arr 0 (by decide)) rfl dX7_byAway_17 ?_
    refine g_icmp_ge C 18 35 dX7_byAway_18 (by decide) ?_ ?_
    · skip
      exact g_sub _ [0, 1, 2, 3, 4, 5, 6, 7] rfl (hJ35 x29 u31)
    · skip
      refine g_lload C 21 7 dX7_byAway_21 rfl ?_
      refine g_ldc2 C 23 10 (by decide +kernel) dX7_byAway_23 ?_
      refine g_lmul C 26 dX7_byAway_26 ?_
      refine g_lstoreV C 27 (fun v33 => [(8, .long v33), (0, .ref (ad 0)), (1, .int p1), (2, .int p2), (3, .int p3), (4, .int p4), (5, .int p5), (6, .long 0), (10, .int x30)]) dX7_byAway_27 (by decide) (fun _ => rfl) (fun v33 => ?_)
      refine g_iinc C 29 8 [(10, .int (x30 + 1)), (8, .long v33), (0, .ref (ad 0)), (1, .int p1), (2, .int p2), (3, .int p3), (4, .int p4), (5, .int p5), (6, .long 0)] dX7_byAway_29 rfl rfl (by decide) rfl ?_
      refine g_goto C 32 9 dX7_byAway_32 (by decide) ?_
      exact g_sub _ [2, 3, 4, 5, 6, 7, 8, 1, 0] rfl (hself32 v33 (x30 + 1) u31)
def pX7_luck (F : Nat) (p1 : Int32) (p2 : Int32) (p3 : Int32) (p4 : Int32) (p5 : Int32) (u : St) : Option (Int64 × St) :=
  bd (pX7_in F (Int32.toInt64 p1) 0 10 u) (fun (r2 : Int32) (u1 : St) => if r2 = 0 then some ((-1), u1) else bd (pX7_isHeard F p2 p4 u1) (fun (r4 : Int32) (u3 : St) => if r4 = 0 then some ((-1), u3) else bd (pX7_isSide F p3 u3) (fun (r6 : Int32) (u5 : St) => if r6 = 0 then some ((-1), u5) else bd (pX7_in F (Int32.toInt64 p5) 0 1 u5) (fun (r8 : Int32) (u7 : St) => if r8 = 0 then some ((-1), u7) else bd (pX7_byAway F p1 p2 p3 p4 p5 u7) (fun (r10 : Int64) (u9 : St) => some (r10, u9))))))
set_option maxRecDepth 100000 in
set_option maxHeartbeats 4000000 in
theorem tX7_luck {l : Launch} {D : va_G} {cI cZ : ClassId} {ad : Nat → Nat} (F : Nat) (p1 : Int32) (p2 : Int32) (p3 : Int32) (p4 : Int32) (p5 : Int32) (u : St) : CtL l D [(cI, .int), (cZ, .boolean)] (wM ad cI cZ) E0 yX7_luck wsX7_luck ({ frames := 7, cells := 0, slots := 0, locals := 177 } : Room) [.ref (ad 0), .int p1, .int p2, .int p3, .int p4, .int p5] u (pX7_luck F p1 p2 p3 p4 p5 u) := by
  refine ctL_of (own := RX7) (cc := cX7_luck) (n := 6) (ret := (some .long)) (by decide) rfl rfl (Nat.le_of_ble_eq_true rfl) (lv := [(0, .ref (ad 0)), (1, .int p1), (2, .int p2), (3, .int p3), (4, .int p4), (5, .int p5)]) rfl (fun C => ?_)
  rw [pX7_luck]
  refine g_iload_n C 0 1 dX7_luck_0 rfl ?_
  refine g_i2l C 1 dX7_luck_1 ?_
  refine g_lconst C 2 0 dX7_luck_2 rfl ?_
  refine g_ldc2 C 3 10 (by decide +kernel) dX7_luck_3 ?_
  refine g_callSi (st := []) (As := [.long (Int32.toInt64 p1), .long 0, .long 10]) C E0_ok E0_vm 6 3 (tX7_in F (Int32.toInt64 p1) 0 10 u) rfl gX7_luck_X7_in rfl rfl rfl (by decide +kernel) ⟨Nat.le_of_ble_eq_true rfl, Nat.le_of_ble_eq_true rfl⟩ rfl (Nat.le_of_ble_eq_true rfl) dX7_luck_6 (fun r2 u1 => ?_)
  refine g_if_eq C 9 54 dX7_luck_9 (by decide) ?_ ?_
  · skip
    refine g_ldc2 C 54 (-1) (by decide +kernel) dX7_luck_54 ?_
    exact g_lret C 57 dX7_luck_57
  · skip
    refine g_aload_n C 12 0 dX7_luck_12 rfl ?_
    refine g_iload_n C 13 2 dX7_luck_13 rfl ?_
    refine g_iload C 14 4 dX7_luck_14 rfl ?_
    refine g_callVi (st := []) (As := [.int p2, .int p4]) C E0_ok E0_vm 16 0 2 (tX7_isHeard F p2 p4 u1) rfl gX7_luck_X7_isHeard rfl rfl rfl (by decide +kernel) ⟨Nat.le_of_ble_eq_true rfl, Nat.le_of_ble_eq_true rfl⟩ rfl rfl rfl (Nat.le_of_ble_eq_true rfl) dX7_luck_16 (fun r4 u3 => ?_)
    refine g_if_eq C 19 54 dX7_luck_19 (by decide) ?_ ?_
    · skip
      refine g_ldc2 C 54 (-1) (by decide +kernel) dX7_luck_54 ?_
      exact g_lret C 57 dX7_luck_57
    · skip
      refine g_iload_n C 22 3 dX7_luck_22 rfl ?_
      refine g_callSi (st := []) (As := [.int p3]) C E0_ok E0_vm 23 1 (tX7_isSide F p3 u3) rfl gX7_luck_X7_isSide rfl rfl rfl (by decide +kernel) ⟨Nat.le_of_ble_eq_true rfl, Nat.le_of_ble_eq_true rfl⟩ rfl (Nat.le_of_ble_eq_true rfl) dX7_luck_23 (fun r6 u5 => ?_)
      refine g_if_eq C 26 54 dX7_luck_26 (by decide) ?_ ?_
      · skip
        refine g_ldc2 C 54 (-1) (by decide +kernel) dX7_luck_54 ?_
        exact g_lret C 57 dX7_luck_57
      · skip
        refine g_iload C 29 5 dX7_luck_29 rfl ?_
        refine g_i2l C 31 dX7_luck_31 ?_
        refine g_lconst C 32 0 dX7_luck_32 rfl ?_
        refine g_lconst C 33 1 dX7_luck_33 rfl ?_
        refine g_callSi (st := []) (As := [.long (Int32.toInt64 p5), .long 0, .long 1]) C E0_ok E0_vm 34 3 (tX7_in F (Int32.toInt64 p5) 0 1 u5) rfl gX7_luck_X7_in rfl rfl rfl (by decide +kernel) ⟨Nat.le_of_ble_eq_true rfl, Nat.le_of_ble_eq_true rfl⟩ rfl (Nat.le_of_ble_eq_true rfl) dX7_luck_34 (fun r8 u7 => ?_)
        refine g_if_eq C 37 54 dX7_luck_37 (by decide) ?_ ?_
        · skip
          refine g_ldc2 C 54 (-1) (by decide +kernel) dX7_luck_54 ?_
          exact g_lret C 57 dX7_luck_57
        · skip
          refine g_aload_n C 40 0 dX7_luck_40 rfl ?_
          refine g_iload_n C 41 1 dX7_luck_41 rfl ?_
          refine g_iload_n C 42 2 dX7_luck_42 rfl ?_
          refine g_iload_n C 43 3 dX7_luck_43 rfl ?_
          refine g_iload C 44 4 dX7_luck_44 rfl ?_
          refine g_iload C 46 5 dX7_luck_46 rfl ?_
          refine g_callVl (st := []) (As := [.int p1, .int p2, .int p3, .int p4, .int p5]) C E0_ok E0_vm 48 0 5 (tX7_byAway F p1 p2 p3 p4 p5 u7) rfl gX7_luck_X7_byAway rfl rfl rfl (by decide +kernel) ⟨Nat.le_of_ble_eq_true rfl, Nat.le_of_ble_eq_true rfl⟩ rfl rfl rfl (Nat.le_of_ble_eq_true rfl) dX7_luck_48 (fun r10 u9 => ?_)
          refine g_goto C 51 57 dX7_luck_51 (by decide) ?_
          exact g_lret C 57 dX7_luck_57
def pX7_mean (F : Nat) (p1 : Int32) (p2 : Int32) (p3 : Int32) (u : St) : Option (Int64 × St) :=
  bd (pX7_in F (Int32.toInt64 p1) 0 10 u) (fun (r2 : Int32) (u1 : St) => if r2 = 0 then some ((-1), u1) else bd (pX7_isSide F p2 u1) (fun (r4 : Int32) (u3 : St) => if r4 = 0 then some ((-1), u3) else bd (pX7_in F (Int32.toInt64 p3) 0 1 u3) (fun (r6 : Int32) (u5 : St) => if r6 = 0 then some ((-1), u5) else bd (pX7_byAway F p1 (-4) p2 (-4) p3 u5) (fun (r8 : Int64) (u7 : St) => some (r8, u7)))))
set_option maxRecDepth 100000 in
set_option maxHeartbeats 4000000 in
theorem tX7_mean {l : Launch} {D : va_G} {cI cZ : ClassId} {ad : Nat → Nat} (F : Nat) (p1 : Int32) (p2 : Int32) (p3 : Int32) (u : St) : CtL l D [(cI, .int), (cZ, .boolean)] (wM ad cI cZ) E0 yX7_mean wsX7_mean ({ frames := 7, cells := 0, slots := 0, locals := 177 } : Room) [.ref (ad 0), .int p1, .int p2, .int p3] u (pX7_mean F p1 p2 p3 u) := by
  refine ctL_of (own := RX7) (cc := cX7_mean) (n := 4) (ret := (some .long)) (by decide) rfl rfl (Nat.le_of_ble_eq_true rfl) (lv := [(0, .ref (ad 0)), (1, .int p1), (2, .int p2), (3, .int p3)]) rfl (fun C => ?_)
  rw [pX7_mean]
  refine g_iload_n C 0 1 dX7_mean_0 rfl ?_
  refine g_i2l C 1 dX7_mean_1 ?_
  refine g_lconst C 2 0 dX7_mean_2 rfl ?_
  refine g_ldc2 C 3 10 (by decide +kernel) dX7_mean_3 ?_
  refine g_callSi (st := []) (As := [.long (Int32.toInt64 p1), .long 0, .long 10]) C E0_ok E0_vm 6 3 (tX7_in F (Int32.toInt64 p1) 0 10 u) rfl gX7_mean_X7_in rfl rfl rfl (by decide +kernel) ⟨Nat.le_of_ble_eq_true rfl, Nat.le_of_ble_eq_true rfl⟩ rfl (Nat.le_of_ble_eq_true rfl) dX7_mean_6 (fun r2 u1 => ?_)
  refine g_if_eq C 9 43 dX7_mean_9 (by decide) ?_ ?_
  · skip
    refine g_ldc2 C 43 (-1) (by decide +kernel) dX7_mean_43 ?_
    exact g_lret C 46 dX7_mean_46
  · skip
    refine g_iload_n C 12 2 dX7_mean_12 rfl ?_
    refine g_callSi (st := []) (As := [.int p2]) C E0_ok E0_vm 13 1 (tX7_isSide F p2 u1) rfl gX7_mean_X7_isSide rfl rfl rfl (by decide +kernel) ⟨Nat.le_of_ble_eq_true rfl, Nat.le_of_ble_eq_true rfl⟩ rfl (Nat.le_of_ble_eq_true rfl) dX7_mean_13 (fun r4 u3 => ?_)
    refine g_if_eq C 16 43 dX7_mean_16 (by decide) ?_ ?_
    · skip
      refine g_ldc2 C 43 (-1) (by decide +kernel) dX7_mean_43 ?_
      exact g_lret C 46 dX7_mean_46
    · skip
      refine g_iload_n C 19 3 dX7_mean_19 rfl ?_
      refine g_i2l C 20 dX7_mean_20 ?_
      refine g_lconst C 21 0 dX7_mean_21 rfl ?_
      refine g_lconst C 22 1 dX7_mean_22 rfl ?_
      refine g_callSi (st := []) (As := [.long (Int32.toInt64 p3), .long 0, .long 1]) C E0_ok E0_vm 23 3 (tX7_in F (Int32.toInt64 p3) 0 1 u3) rfl gX7_mean_X7_in rfl rfl rfl (by decide +kernel) ⟨Nat.le_of_ble_eq_true rfl, Nat.le_of_ble_eq_true rfl⟩ rfl (Nat.le_of_ble_eq_true rfl) dX7_mean_23 (fun r6 u5 => ?_)
      refine g_if_eq C 26 43 dX7_mean_26 (by decide) ?_ ?_
      · skip
        refine g_ldc2 C 43 (-1) (by decide +kernel) dX7_mean_43 ?_
        exact g_lret C 46 dX7_mean_46
      · skip
        refine g_aload_n C 29 0 dX7_mean_29 rfl ?_
        refine g_iload_n C 30 1 dX7_mean_30 rfl ?_
        refine g_bipush C 31 (-4) dX7_mean_31 rfl ?_
        refine g_iload_n C 33 2 dX7_mean_33 rfl ?_
        refine g_bipush C 34 (-4) dX7_mean_34 rfl ?_
        refine g_iload_n C 36 3 dX7_mean_36 rfl ?_
        refine g_callVl (st := []) (As := [.int p1, .int (-4), .int p2, .int (-4), .int p3]) C E0_ok E0_vm 37 0 5 (tX7_byAway F p1 (-4) p2 (-4) p3 u5) rfl gX7_mean_X7_byAway rfl rfl rfl (by decide +kernel) ⟨Nat.le_of_ble_eq_true rfl, Nat.le_of_ble_eq_true rfl⟩ rfl rfl rfl (Nat.le_of_ble_eq_true rfl) dX7_mean_37 (fun r8 u7 => ?_)
        refine g_goto C 40 46 dX7_mean_40 (by decide) ?_
        exact g_lret C 46 dX7_mean_46
def pX7_see (F : Nat) (p1 : Int32) (p2 : Int32) (p3 : Int32) (u : St) : Option (Int32 × St) :=
  bd (pX7_isHeard F p1 p2 u) (fun (r2 : Int32) (u1 : St) => if r2 = 0 then some ((-1), u1) else bd (pX7_in F (Int32.toInt64 p3) 1 3 u1) (fun (r4 : Int32) (u3 : St) => if r4 = 0 then some ((-1), u3) else if (u3.1 21) = 6 then some ((-3), u3) else gd (inb (3 * (u3.1 21)) 18) (vl (sta u3 7 (3 * (u3.1 21)) p1) (fun (u5 : St) => gd (inb ((3 * (u5.1 21)) + 1) 18) (vl (sta u5 7 ((3 * (u5.1 21)) + 1) p2) (fun (u6 : St) => gd (inb ((3 * (u6.1 21)) + 2) 18) (vl (sta u6 7 ((3 * (u6.1 21)) + 2) p3) (fun (u7 : St) => vl (stf u7 21 ((u7.1 21) + 1)) (fun (u8 : St) => some ((u8.1 21), u8))))))))))
set_option maxRecDepth 100000 in
set_option maxHeartbeats 4000000 in
theorem tX7_see {l : Launch} {D : va_G} {cI cZ : ClassId} {ad : Nat → Nat} (F : Nat) (p1 : Int32) (p2 : Int32) (p3 : Int32) (u : St) : CtI l D [(cI, .int), (cZ, .boolean)] (wM ad cI cZ) E0 yX7_see wsX7_see ({ frames := 3, cells := 0, slots := 0, locals := 68 } : Room) [.ref (ad 0), .int p1, .int p2, .int p3] u (pX7_see F p1 p2 p3 u) := by
  refine ctI_of (own := RX7) (cc := cX7_see) (n := 4) (ret := (some .int)) (by decide) rfl rfl (Nat.le_of_ble_eq_true rfl) (lv := [(0, .ref (ad 0)), (1, .int p1), (2, .int p2), (3, .int p3)]) rfl (fun C => ?_)
  have iX7 : ∀ w ∈ wsX70, w ∈ wsX7_see := fun w h => List.mem_cons_of_mem _ (List.mem_append_right _ (inlX7 w h))
  rw [pX7_see]
  refine g_aload_n C 0 0 dX7_see_0 rfl ?_
  refine g_iload_n C 1 1 dX7_see_1 rfl ?_
  refine g_iload_n C 2 2 dX7_see_2 rfl ?_
  refine g_callVi (st := []) (As := [.int p1, .int p2]) C E0_ok E0_vm 3 0 2 (tX7_isHeard F p1 p2 u) rfl gX7_see_X7_isHeard rfl rfl rfl (by decide +kernel) ⟨Nat.le_of_ble_eq_true rfl, Nat.le_of_ble_eq_true rfl⟩ rfl rfl rfl (Nat.le_of_ble_eq_true rfl) dX7_see_3 (fun r2 u1 => ?_)
  refine g_if_eq C 6 21 dX7_see_6 (by decide) ?_ ?_
  · skip
    refine g_iconst C 21 (-1) dX7_see_21 rfl ?_
    exact g_iret C 22 dX7_see_22
  · skip
    refine g_iload_n C 9 3 dX7_see_9 rfl ?_
    refine g_i2l C 10 dX7_see_10 ?_
    refine g_lconst C 11 1 dX7_see_11 rfl ?_
    refine g_ldc2 C 12 3 (by decide +kernel) dX7_see_12 ?_
    refine g_callSi (st := []) (As := [.long (Int32.toInt64 p3), .long 1, .long 3]) C E0_ok E0_vm 15 3 (tX7_in F (Int32.toInt64 p3) 1 3 u1) rfl gX7_see_X7_in rfl rfl rfl (by decide +kernel) ⟨Nat.le_of_ble_eq_true rfl, Nat.le_of_ble_eq_true rfl⟩ rfl (Nat.le_of_ble_eq_true rfl) dX7_see_15 (fun r4 u3 => ?_)
    refine g_if_ne C 18 23 dX7_see_18 (by decide) ?_ ?_
    · skip
      refine g_aload_n C 23 0 dX7_see_23 rfl ?_
      refine gfM_X7_seenMany C 24 iX7 (List.mem_cons_of_mem _ (List.mem_append_right _ wgL_15_18.1)) dX7_see_24 ?_
      refine g_bipush C 27 6 dX7_see_27 rfl ?_
      refine g_icmp_ne C 29 35 dX7_see_29 (by decide) ?_ ?_
      · skip
        refine g_aload_n C 35 0 dX7_see_35 rfl ?_
        refine gfM_X7_seen C 36 iX7 (List.mem_cons_of_mem _ (List.mem_append_right _ wgL_5_21.1)) dX7_see_36 ?_
        refine g_iconst C 39 3 dX7_see_39 rfl ?_
        refine g_aload_n C 40 0 dX7_see_40 rfl ?_
        refine gfM_X7_seenMany C 41 iX7 (List.mem_cons_of_mem _ (List.mem_append_right _ wgL_15_18.1)) dX7_see_41 ?_
        refine g_imul C 44 dX7_see_44 ?_
        refine g_iload_n C 45 1 dX7_see_45 rfl ?_
        refine g_iast C 46 (1 + 7) 0 7 (wM_arr 7 (by decide)) (wM_aset 7 (by decide)) rfl dX7_see_46 (fun u5 => ?_)
        refine g_aload_n C 47 0 dX7_see_47 rfl ?_
        refine gfM_X7_seen C 48 iX7 (List.mem_cons_of_mem _ (List.mem_append_right _ wgL_5_21.1)) dX7_see_48 ?_
        refine g_iconst C 51 3 dX7_see_51 rfl ?_
        refine g_aload_n C 52 0 dX7_see_52 rfl ?_
        refine gfM_X7_seenMany C 53 iX7 (List.mem_cons_of_mem _ (List.mem_append_right _ wgL_15_18.1)) dX7_see_53 ?_
        refine g_imul C 56 dX7_see_56 ?_
        refine g_iconst C 57 1 dX7_see_57 rfl ?_
        refine g_iadd C 58 dX7_see_58 ?_
        refine g_iload_n C 59 2 dX7_see_59 rfl ?_
        refine g_iast C 60 (1 + 7) 0 7 (wM_arr 7 (by decide)) (wM_aset 7 (by decide)) rfl dX7_see_60 (fun u6 => ?_)
        refine g_aload_n C 61 0 dX7_see_61 rfl ?_
        refine gfM_X7_seen C 62 iX7 (List.mem_cons_of_mem _ (List.mem_append_right _ wgL_5_21.1)) dX7_see_62 ?_
        refine g_iconst C 65 3 dX7_see_65 rfl ?_
        refine g_aload_n C 66 0 dX7_see_66 rfl ?_
        refine gfM_X7_seenMany C 67 iX7 (List.mem_cons_of_mem _ (List.mem_append_right _ wgL_15_18.1)) dX7_see_67 ?_
        refine g_imul C 70 dX7_see_70 ?_
        refine g_iconst C 71 2 dX7_see_71 rfl ?_
        refine g_iadd C 72 dX7_see_72 ?_
        refine g_iload_n C 73 3 dX7_see_73 rfl ?_
        refine g_iast C 74 (1 + 7) 0 7 (wM_arr 7 (by decide)) (wM_aset 7 (by decide)) rfl dX7_see_74 (fun u7 => ?_)
        refine g_aload_n C 75 0 dX7_see_75 rfl ?_
        refine g_dup C 76 dX7_see_76 rfl ?_
        refine gfM_X7_seenMany C 77 iX7 (List.mem_cons_of_mem _ (List.mem_append_right _ wgL_15_18.1)) dX7_see_77 ?_
        refine g_iconst C 80 1 dX7_see_80 rfl ?_
        refine g_iadd C 81 dX7_see_81 ?_
        refine pfM_X7_seenMany C 82 iX7 (List.mem_cons_of_mem _ (List.mem_append_right _ wgL_15_18.1)) dX7_see_82 (fun u8 => ?_)
        refine g_aload_n C 85 0 dX7_see_85 rfl ?_
        refine gfM_X7_seenMany C 86 iX7 (List.mem_cons_of_mem _ (List.mem_append_right _ wgL_15_18.1)) dX7_see_86 ?_
        exact g_iret C 89 dX7_see_89
      · skip
        refine g_bipush C 32 (-3) dX7_see_32 rfl ?_
        exact g_iret C 34 dX7_see_34
    · skip
      refine g_iconst C 21 (-1) dX7_see_21 rfl ?_
      exact g_iret C 22 dX7_see_22
def pX7_forget (F : Nat) (p1 : Int32) (u : St) : Option (Int32 × St) :=
  bd (pX7_in F (Int32.toInt64 p1) 0 (Int32.toInt64 (u.1 21)) u) (fun (r2 : Int32) (u1 : St) => if r2 = 0 then some ((-1), u1) else vl (u1.1 21) (fun v3 => vl (stf u1 21 p1) (fun (u4 : St) => some (v3, u4))))
set_option maxRecDepth 100000 in
set_option maxHeartbeats 4000000 in
theorem tX7_forget {l : Launch} {D : va_G} {cI cZ : ClassId} {ad : Nat → Nat} (F : Nat) (p1 : Int32) (u : St) : CtI l D [(cI, .int), (cZ, .boolean)] (wM ad cI cZ) E0 yX7_forget wsX7_forget ({ frames := 1, cells := 0, slots := 0, locals := 25 } : Room) [.ref (ad 0), .int p1] u (pX7_forget F p1 u) := by
  refine ctI_of (own := RX7) (cc := cX7_forget) (n := 3) (ret := (some .int)) (by decide) rfl rfl (Nat.le_of_ble_eq_true rfl) (lv := [(0, .ref (ad 0)), (1, .int p1)]) rfl (fun C => ?_)
  have iX7 : ∀ w ∈ wsX70, w ∈ wsX7_forget := fun w h => List.mem_cons_of_mem _ (List.mem_append_right _ (inlX7 w h))
  rw [pX7_forget]
  refine g_iload_n C 0 1 dX7_forget_0 rfl ?_
  refine g_i2l C 1 dX7_forget_1 ?_
  refine g_lconst C 2 0 dX7_forget_2 rfl ?_
  refine g_aload_n C 3 0 dX7_forget_3 rfl ?_
  refine gfM_X7_seenMany C 4 iX7 (List.mem_cons_of_mem _ (List.mem_append_right _ wgL_15_18.1)) dX7_forget_4 ?_
  refine g_i2l C 7 dX7_forget_7 ?_
  refine g_callSi (st := []) (As := [.long (Int32.toInt64 p1), .long 0, .long (Int32.toInt64 (u.1 21))]) C E0_ok E0_vm 8 3 (tX7_in F (Int32.toInt64 p1) 0 (Int32.toInt64 (u.1 21)) u) rfl gX7_forget_X7_in rfl rfl rfl (by decide +kernel) ⟨Nat.le_of_ble_eq_true rfl, Nat.le_of_ble_eq_true rfl⟩ rfl (Nat.le_of_ble_eq_true rfl) dX7_forget_8 (fun r2 u1 => ?_)
  refine g_if_ne C 11 16 dX7_forget_11 (by decide) ?_ ?_
  · skip
    refine g_aload_n C 16 0 dX7_forget_16 rfl ?_
    refine gfM_X7_seenMany C 17 iX7 (List.mem_cons_of_mem _ (List.mem_append_right _ wgL_15_18.1)) dX7_forget_17 ?_
    refine g_istore_nV C 20 (fun v3 => [(2, .int v3), (0, .ref (ad 0)), (1, .int p1)]) dX7_forget_20 (by decide) (fun _ => rfl) (fun v3 => ?_)
    refine g_aload_n C 21 1 dX7_forget_21 rfl ?_
    refine g_iload_n C 22 2 dX7_forget_22 rfl ?_
    refine pfM_X7_seenMany C 23 iX7 (List.mem_cons_of_mem _ (List.mem_append_right _ wgL_15_18.1)) dX7_forget_23 (fun u4 => ?_)
    refine g_iload_n C 26 0 dX7_forget_26 rfl ?_
    exact g_iret C 27 dX7_forget_27
  · skip
    refine g_iconst C 14 (-1) dX7_forget_14 rfl ?_
    exact g_iret C 15 dX7_forget_15
def bX7_isAsSeen_4 (F : Nat)  (self4 : Int32 → Int32 → St → Option (Int32 × St)) (x1 : Int32) (x2 : Int32) (u3 : St) : Option (Int32 × St) :=
  if (u3.1 21) ≤ x2 then gd (z01 x1) (some (x1, u3)) else jn (fun (a5 : Int32) (u6 : St) => (self4 a5 (x2 + 1) u6)) (fun (J57 : Int32 → St → Option (Int32 × St)) => jn (fun (u7 : St) => (J57 0 u7)) (fun (J56 : St → Option (Int32 × St)) => if x1 = 0 then (J56 u3) else gd (inb (3 * x2) 18) (gd (inb ((3 * x2) + 1) 18) (bd (pX7_tries F 0 (u3.2 7 (Int32.toNatClampNeg (3 * x2))) (u3.2 7 (Int32.toNatClampNeg ((3 * x2) + 1))) u3) (fun (r9 : Int32) (u8 : St) => gd (inb ((3 * x2) + 2) 18) (if r9 = (u8.2 7 (Int32.toNatClampNeg ((3 * x2) + 2))) then (J57 1 u8) else (J56 u8)))))))
def pX7_isAsSeen (F : Nat)  (u : St) : Option (Int32 × St) :=
  (lq2 (bX7_isAsSeen_4 F) F 1 0 u)
set_option maxRecDepth 100000 in
set_option maxHeartbeats 4000000 in
theorem tX7_isAsSeen {l : Launch} {D : va_G} {cI cZ : ClassId} {ad : Nat → Nat} (F : Nat)  (u : St) : CtI l D [(cI, .int), (cZ, .boolean)] (wM ad cI cZ) E0 yX7_isAsSeen wsX7_isAsSeen ({ frames := 4, cells := 0, slots := 0, locals := 98 } : Room) [.ref (ad 0)] u (pX7_isAsSeen F u) := by
  refine ctI_of (own := RX7) (cc := cX7_isAsSeen) (n := 3) (ret := (some .boolean)) (by decide) rfl rfl (Nat.le_of_ble_eq_true rfl) (lv := [(0, .ref (ad 0))]) rfl (fun C => ?_)
  have iX7 : ∀ w ∈ wsX70, w ∈ wsX7_isAsSeen := fun w h => List.mem_cons_of_mem _ (List.mem_append_right _ (inlX7 w h))
  rw [pX7_isAsSeen]
  refine g_iconst C 0 1 dX7_isAsSeen_0 rfl ?_
  refine g_istore_n C 1 [(1, .int 1), (0, .ref (ad 0))] dX7_isAsSeen_1 (by decide) rfl ?_
  refine g_iconst C 2 0 dX7_isAsSeen_2 rfl ?_
  refine g_istore_n C 3 [(2, .int 0), (1, .int 1), (0, .ref (ad 0))] dX7_isAsSeen_3 (by decide) rfl ?_
  refine g_sub _ [2, 1, 0] rfl ?_
  refine g_lq2 (fun (x1 : Int32) (x2 : Int32) => [(0, .ref (ad 0)), (1, .int x1), (2, .int x2)]) (fun self4 hself4 x1 x2 u3 => ?_) F 1 0 u
  rw [bX7_isAsSeen_4]
  refine g_iload_n C 4 2 dX7_isAsSeen_4 rfl ?_
  refine g_aload_n C 5 0 dX7_isAsSeen_5 rfl ?_
  refine gfM_X7_seenMany C 6 iX7 (List.mem_cons_of_mem _ (List.mem_append_right _ wgL_15_18.1)) dX7_isAsSeen_6 ?_
  refine g_icmp_ge C 9 64 dX7_isAsSeen_9 (by decide) ?_ ?_
  · skip
    refine g_iload_n C 64 1 dX7_isAsSeen_64 rfl ?_
    exact g_zret C 65 dX7_isAsSeen_65
  · skip
    refine g_iload_n C 12 1 dX7_isAsSeen_12 rfl ?_
    refine g_jn1 57 (fun (a5 : Int32) => [(0, .ref (ad 0)), (2, .int x2)]) (fun (a5 : Int32) => [.int a5]) (fun a5 u6 => ?_) (fun J57 hJ57 => ?_)
    · skip
      refine g_istore_n C 57 [(1, .int a5), (0, .ref (ad 0)), (2, .int x2)] dX7_isAsSeen_57 (by decide) rfl ?_
      refine g_iinc C 58 2 [(2, .int (x2 + 1)), (1, .int a5), (0, .ref (ad 0))] dX7_isAsSeen_58 rfl rfl (by decide) rfl ?_
      refine g_goto C 61 4 dX7_isAsSeen_61 (by decide) ?_
      exact g_sub _ [2, 1, 0] rfl (hself4 a5 (x2 + 1) u6)
    · skip
      refine g_jn0 56 ([(0, .ref (ad 0)), (2, .int x2)]) ([]) (fun u7 => ?_) (fun J56 hJ56 => ?_)
      · skip
        refine g_iconst C 56 0 dX7_isAsSeen_56 rfl ?_
        exact g_sub _ [0, 1] rfl (hJ57 0 u7)
      · skip
        refine g_if_eq C 13 56 dX7_isAsSeen_13 (by decide) ?_ ?_
        · skip
          exact g_sub _ [0, 2] rfl (hJ56 u3)
        · skip
          refine g_aload_n C 16 0 dX7_isAsSeen_16 rfl ?_
          refine g_iconst C 17 0 dX7_isAsSeen_17 rfl ?_
          refine g_aload_n C 18 0 dX7_isAsSeen_18 rfl ?_
          refine gfM_X7_seen C 19 iX7 (List.mem_cons_of_mem _ (List.mem_append_right _ wgL_5_21.1)) dX7_isAsSeen_19 ?_
          refine g_iconst C 22 3 dX7_isAsSeen_22 rfl ?_
          refine g_iload_n C 23 2 dX7_isAsSeen_23 rfl ?_
          refine g_imul C 24 dX7_isAsSeen_24 ?_
          refine g_iald C 25 (1 + 7) 0 (wM_arr 7 (by decide)) rfl dX7_isAsSeen_25 ?_
          refine g_aload_n C 26 0 dX7_isAsSeen_26 rfl ?_
          refine gfM_X7_seen C 27 iX7 (List.mem_cons_of_mem _ (List.mem_append_right _ wgL_5_21.1)) dX7_isAsSeen_27 ?_
          refine g_iconst C 30 3 dX7_isAsSeen_30 rfl ?_
          refine g_iload_n C 31 2 dX7_isAsSeen_31 rfl ?_
          refine g_imul C 32 dX7_isAsSeen_32 ?_
          refine g_iconst C 33 1 dX7_isAsSeen_33 rfl ?_
          refine g_iadd C 34 dX7_isAsSeen_34 ?_
          refine g_iald C 35 (1 + 7) 0 (wM_arr 7 (by decide)) rfl dX7_isAsSeen_35 ?_
          refine g_callVi (st := []) (As := [.int 0, .int (u3.2 7 (Int32.toNatClampNeg (3 * x2))), .int (u3.2 7 (Int32.toNatClampNeg ((3 * x2) + 1)))]) C E0_ok E0_vm 36 0 3 (tX7_tries F 0 (u3.2 7 (Int32.toNatClampNeg (3 * x2))) (u3.2 7 (Int32.toNatClampNeg ((3 * x2) + 1))) u3) rfl gX7_isAsSeen_X7_tries rfl rfl rfl (by decide +kernel) ⟨Nat.le_of_ble_eq_true rfl, Nat.le_of_ble_eq_true rfl⟩ rfl rfl rfl (Nat.le_of_ble_eq_true rfl) dX7_isAsSeen_36 (fun r9 u8 => ?_)
          refine g_aload_n C 39 0 dX7_isAsSeen_39 rfl ?_
          refine gfM_X7_seen C 40 iX7 (List.mem_cons_of_mem _ (List.mem_append_right _ wgL_5_21.1)) dX7_isAsSeen_40 ?_
          refine g_iconst C 43 3 dX7_isAsSeen_43 rfl ?_
          refine g_iload_n C 44 2 dX7_isAsSeen_44 rfl ?_
          refine g_imul C 45 dX7_isAsSeen_45 ?_
          refine g_iconst C 46 2 dX7_isAsSeen_46 rfl ?_
          refine g_iadd C 47 dX7_isAsSeen_47 ?_
          refine g_iald C 48 (1 + 7) 0 (wM_arr 7 (by decide)) rfl dX7_isAsSeen_48 ?_
          refine g_icmp_ne C 49 56 dX7_isAsSeen_49 (by decide) ?_ ?_
          · skip
            exact g_sub _ [0, 2] rfl (hJ56 u8)
          · skip
            refine g_iconst C 52 1 dX7_isAsSeen_52 rfl ?_
            refine g_goto C 53 57 dX7_isAsSeen_53 (by decide) ?_
            exact g_sub _ [0, 2] rfl (hJ57 1 u8)
def jX7_habitsOf_94 (F : Nat) (p1 : Int32) (v1 : Int32) (a2 : Int32) (u3 : St) : Option (Int32 × St) :=
  gd (inb (40 + p1) 408) (vl (sta u3 0 (40 + p1) v1) (fun (u4 : St) => some (a2, u4)))
def jX7_habitsOf_88 (F : Nat) (x6 : Int32) (self8 : Int32 → Int32 → St → Option (Int32 × St)) (v14 : Int32)  (u15 : St) : Option (Int32 × St) :=
  (self8 v14 (x6 + 1) u15)
def bX7_habitsOf_53 (F : Nat) (p1 : Int32) (x6 : Int32) (J88 : St → Option (Int32 × St)) (self18 : Int32 → St → Option (Int32 × St)) (x16 : Int32) (u17 : St) : Option (Int32 × St) :=
  if (u17.1 0) ≤ x16 then (J88 u17) else bd (pX7_tries F 0 x16 p1 u17) (fun (r20 : Int32) (u19 : St) => gd (inb ((4 * x6) + x16) 16) (vl (sta u19 8 ((4 * x6) + x16) r20) (fun (u21 : St) => (self18 (x16 + 1) u21))))
def bX7_habitsOf_15 (F : Nat) (p1 : Int32) (J94 : Int32 → St → Option (Int32 × St)) (self8 : Int32 → Int32 → St → Option (Int32 × St)) (x5 : Int32) (x6 : Int32) (u7 : St) : Option (Int32 × St) :=
  if 4 ≤ x6 then (J94 x5 u7) else gd (inb (40 + p1) 408) (vl (sta u7 0 (40 + p1) x6) (fun (u9 : St) => bd (pX7_isAsSeen F u9) (fun (r11 : Int32) (u10 : St) => jn (fun (a12 : Int32) (u13 : St) => vl (x5 ||| a12) (fun v14 => jn (jX7_habitsOf_88 F x6 self8 v14) (fun (J88 : St → Option (Int32 × St)) => (lq1 (bX7_habitsOf_53 F p1 x6 J88) F 0 u13)))) (fun (J48 : Int32 → St → Option (Int32 × St)) => if r11 = 0 then (J48 0 u10) else (J48 (1 <<< (x6 &&& 31)) u10)))))
def pX7_habitsOf (F : Nat) (p1 : Int32) (u : St) : Option (Int32 × St) :=
  gd (inb (40 + p1) 408) (vl (u.2 0 (Int32.toNatClampNeg (40 + p1))) (fun v1 => jn (jX7_habitsOf_94 F p1 v1) (fun (J94 : Int32 → St → Option (Int32 × St)) => (lq2 (bX7_habitsOf_15 F p1 J94) F 0 0 u))))
set_option maxRecDepth 100000 in
set_option maxHeartbeats 4000000 in
theorem tX7_habitsOf {l : Launch} {D : va_G} {cI cZ : ClassId} {ad : Nat → Nat} (F : Nat) (p1 : Int32) (u : St) : CtI l D [(cI, .int), (cZ, .boolean)] (wM ad cI cZ) E0 yX7_habitsOf wsX7_habitsOf ({ frames := 5, cells := 0, slots := 0, locals := 120 } : Room) [.ref (ad 0), .int p1] u (pX7_habitsOf F p1 u) := by
  refine ctI_of (own := RX7) (cc := cX7_habitsOf) (n := 6) (ret := (some .int)) (by decide) rfl rfl (Nat.le_of_ble_eq_true rfl) (lv := [(0, .ref (ad 0)), (1, .int p1)]) rfl (fun C => ?_)
  have iX7 : ∀ w ∈ wsX70, w ∈ wsX7_habitsOf := fun w h => List.mem_cons_of_mem _ (List.mem_append_right _ (inlX7 w h))
  rw [pX7_habitsOf]
  refine g_aload_n C 0 0 dX7_habitsOf_0 rfl ?_
  refine gfM_X7_state C 1 iX7 (List.mem_cons_of_mem _ (List.mem_append_right _ wgL_5_14.1)) dX7_habitsOf_1 ?_
  refine g_bipush C 4 40 dX7_habitsOf_4 rfl ?_
  refine g_iload_n C 6 1 dX7_habitsOf_6 rfl ?_
  refine g_iadd C 7 dX7_habitsOf_7 ?_
  refine g_iald C 8 (1 + 0) 0 (wM_arr 0 (by decide)) rfl dX7_habitsOf_8 ?_
  refine g_istore_nV C 9 (fun v1 => [(2, .int v1), (0, .ref (ad 0)), (1, .int p1)]) dX7_habitsOf_9 (by decide) (fun _ => rfl) (fun v1 => ?_)
  refine g_iconst C 10 0 dX7_habitsOf_10 rfl ?_
  refine g_istore_n C 11 [(3, .int 0), (2, .int v1), (0, .ref (ad 0)), (1, .int p1)] dX7_habitsOf_11 (by decide) rfl ?_
  refine g_iconst C 12 0 dX7_habitsOf_12 rfl ?_
  refine g_istore C 13 [(4, .int 0), (3, .int 0), (2, .int v1), (0, .ref (ad 0)), (1, .int p1)] dX7_habitsOf_13 (by decide) rfl ?_
  refine g_jn1 94 (fun (a2 : Int32) => [(0, .ref (ad 0)), (1, .int p1), (2, .int v1), (3, .int a2)]) (fun (a2 : Int32) => []) (fun a2 u3 => ?_) (fun J94 hJ94 => ?_)
  · skip
    rw [jX7_habitsOf_94]
    refine g_aload_n C 94 0 dX7_habitsOf_94 rfl ?_
    refine gfM_X7_state C 95 iX7 (List.mem_cons_of_mem _ (List.mem_append_right _ wgL_5_14.1)) dX7_habitsOf_95 ?_
    refine g_bipush C 98 40 dX7_habitsOf_98 rfl ?_
    refine g_iload_n C 100 1 dX7_habitsOf_100 rfl ?_
    refine g_iadd C 101 dX7_habitsOf_101 ?_
    refine g_iload_n C 102 2 dX7_habitsOf_102 rfl ?_
    refine g_iast C 103 (1 + 0) 0 0 (wM_arr 0 (by decide)) (wM_aset 0 (by decide)) rfl dX7_habitsOf_103 (fun u4 => ?_)
    refine g_iload_n C 104 3 dX7_habitsOf_104 rfl ?_
    exact g_iret C 105 dX7_habitsOf_105
  · skip
    refine g_sub _ [3, 4, 2, 1, 0] rfl ?_
    refine g_lq2 (fun (x5 : Int32) (x6 : Int32) => [(0, .ref (ad 0)), (1, .int p1), (2, .int v1), (3, .int x5), (4, .int x6)]) (fun self8 hself8 x5 x6 u7 => ?_) F 0 0 u
    rw [bX7_habitsOf_15]
    refine g_iload C 15 4 dX7_habitsOf_15 rfl ?_
    refine g_iconst C 17 4 dX7_habitsOf_17 rfl ?_
    refine g_icmp_ge C 18 94 dX7_habitsOf_18 (by decide) ?_ ?_
    · skip
      exact g_sub _ [0, 1, 2, 3] rfl (hJ94 x5 u7)
    · skip
      refine g_aload_n C 21 0 dX7_habitsOf_21 rfl ?_
      refine gfM_X7_state C 22 iX7 (List.mem_cons_of_mem _ (List.mem_append_right _ wgL_5_14.1)) dX7_habitsOf_22 ?_
      refine g_bipush C 25 40 dX7_habitsOf_25 rfl ?_
      refine g_iload_n C 27 1 dX7_habitsOf_27 rfl ?_
      refine g_iadd C 28 dX7_habitsOf_28 ?_
      refine g_iload C 29 4 dX7_habitsOf_29 rfl ?_
      refine g_iast C 31 (1 + 0) 0 0 (wM_arr 0 (by decide)) (wM_aset 0 (by decide)) rfl dX7_habitsOf_31 (fun u9 => ?_)
      refine g_iload_n C 32 3 dX7_habitsOf_32 rfl ?_
      refine g_aload_n C 33 0 dX7_habitsOf_33 rfl ?_
      refine g_callVi (st := [.int x5]) (As := []) C E0_ok E0_vm 34 0 0 (tX7_isAsSeen F u9) rfl gX7_habitsOf_X7_isAsSeen rfl rfl rfl (by decide +kernel) ⟨Nat.le_of_ble_eq_true rfl, Nat.le_of_ble_eq_true rfl⟩ rfl rfl rfl (Nat.le_of_ble_eq_true rfl) dX7_habitsOf_34 (fun r11 u10 => ?_)
      refine g_jn1 48 (fun (a12 : Int32) => [(0, .ref (ad 0)), (1, .int p1), (2, .int v1), (4, .int x6)]) (fun (a12 : Int32) => [.int a12, .int x5]) (fun a12 u13 => ?_) (fun J48 hJ48 => ?_)
      · skip
        refine g_ior C 48 dX7_habitsOf_48 ?_
        refine g_istore_nV C 49 (fun v14 => [(3, .int v14), (0, .ref (ad 0)), (1, .int p1), (2, .int v1), (4, .int x6)]) dX7_habitsOf_49 (by decide) (fun _ => rfl) (fun v14 => ?_)
        refine g_iconst C 50 0 dX7_habitsOf_50 rfl ?_
        refine g_istore C 51 [(5, .int 0), (3, .int v14), (0, .ref (ad 0)), (1, .int p1), (2, .int v1), (4, .int x6)] dX7_habitsOf_51 (by decide) rfl ?_
        refine g_jn0 88 ([(0, .ref (ad 0)), (1, .int p1), (2, .int v1), (3, .int v14), (4, .int x6)]) ([]) (fun u15 => ?_) (fun J88 hJ88 => ?_)
        · skip
          rw [jX7_habitsOf_88]
          refine g_iinc C 88 4 [(4, .int (x6 + 1)), (0, .ref (ad 0)), (1, .int p1), (2, .int v1), (3, .int v14)] dX7_habitsOf_88 rfl rfl (by decide) rfl ?_
          refine g_goto C 91 15 dX7_habitsOf_91 (by decide) ?_
          exact g_sub _ [1, 2, 3, 4, 0] rfl (hself8 v14 (x6 + 1) u15)
        · skip
          refine g_sub _ [2, 3, 4, 1, 5, 0] rfl ?_
          refine g_lq1 (fun (x16 : Int32) => [(0, .ref (ad 0)), (1, .int p1), (2, .int v1), (3, .int v14), (4, .int x6), (5, .int x16)]) (fun self18 hself18 x16 u17 => ?_) F 0 u13
          rw [bX7_habitsOf_53]
          refine g_iload C 53 5 dX7_habitsOf_53 rfl ?_
          refine g_aload_n C 55 0 dX7_habitsOf_55 rfl ?_
          refine gfM_X7_caseMany C 56 iX7 (List.mem_cons_of_mem _ (List.mem_append_right _ wgL_15_16.1)) dX7_habitsOf_56 ?_
          refine g_icmp_ge C 59 88 dX7_habitsOf_59 (by decide) ?_ ?_
          · skip
            exact g_sub _ [0, 1, 2, 3, 4] rfl (hJ88 u17)
          · skip
            refine g_aload_n C 62 0 dX7_habitsOf_62 rfl ?_
            refine gfM_X7_verdictBy C 63 iX7 (List.mem_cons_of_mem _ (List.mem_append_right _ wgL_5_22.1)) dX7_habitsOf_63 ?_
            refine g_iconst C 66 4 dX7_habitsOf_66 rfl ?_
            refine g_iload C 67 4 dX7_habitsOf_67 rfl ?_
            refine g_imul C 69 dX7_habitsOf_69 ?_
            refine g_iload C 70 5 dX7_habitsOf_70 rfl ?_
            refine g_iadd C 72 dX7_habitsOf_72 ?_
            refine g_aload_n C 73 0 dX7_habitsOf_73 rfl ?_
            refine g_iconst C 74 0 dX7_habitsOf_74 rfl ?_
            refine g_iload C 75 5 dX7_habitsOf_75 rfl ?_
            refine g_iload_n C 77 1 dX7_habitsOf_77 rfl ?_
            refine g_callVi (st := [.int ((4 * x6) + x16), .ref (ad (1 + 8))]) (As := [.int 0, .int x16, .int p1]) C E0_ok E0_vm 78 0 3 (tX7_tries F 0 x16 p1 u17) rfl gX7_habitsOf_X7_tries rfl rfl rfl (by decide +kernel) ⟨Nat.le_of_ble_eq_true rfl, Nat.le_of_ble_eq_true rfl⟩ rfl rfl rfl (Nat.le_of_ble_eq_true rfl) dX7_habitsOf_78 (fun r20 u19 => ?_)
            refine g_iast C 81 (1 + 8) 0 8 (wM_arr 8 (by decide)) (wM_aset 8 (by decide)) rfl dX7_habitsOf_81 (fun u21 => ?_)
            refine g_iinc C 82 5 [(5, .int (x16 + 1)), (0, .ref (ad 0)), (1, .int p1), (2, .int v1), (3, .int v14), (4, .int x6)] dX7_habitsOf_82 rfl rfl (by decide) rfl ?_
            refine g_goto C 85 53 dX7_habitsOf_85 (by decide) ?_
            exact g_sub _ [1, 2, 3, 4, 5, 0] rfl (hself18 (x16 + 1) u21)
      · skip
        refine g_if_eq C 37 47 dX7_habitsOf_37 (by decide) ?_ ?_
        · skip
          refine g_iconst C 47 0 dX7_habitsOf_47 rfl ?_
          exact g_sub _ [0, 1, 2, 4] rfl (hJ48 0 u10)
        · skip
          refine g_iconst C 40 1 dX7_habitsOf_40 rfl ?_
          refine g_iload C 41 4 dX7_habitsOf_41 rfl ?_
          refine g_ishl C 43 dX7_habitsOf_43 ?_
          refine g_goto C 44 48 dX7_habitsOf_44 (by decide) ?_
          exact g_sub _ [0, 1, 2, 4] rfl (hJ48 (1 <<< (x6 &&& 31)) u10)
def pX7_habits (F : Nat) (p1 : Int32) (u : St) : Option (Int32 × St) :=
  bd (pX7_isJudge F p1 u) (fun (r2 : Int32) (u1 : St) => if r2 = 0 then some ((-1), u1) else bd (pX7_habitsOf F p1 u1) (fun (r4 : Int32) (u3 : St) => some (r4, u3)))
set_option maxRecDepth 100000 in
set_option maxHeartbeats 4000000 in
theorem tX7_habits {l : Launch} {D : va_G} {cI cZ : ClassId} {ad : Nat → Nat} (F : Nat) (p1 : Int32) (u : St) : CtI l D [(cI, .int), (cZ, .boolean)] (wM ad cI cZ) E0 yX7_habits wsX7_habits ({ frames := 6, cells := 0, slots := 0, locals := 145 } : Room) [.ref (ad 0), .int p1] u (pX7_habits F p1 u) := by
  refine ctI_of (own := RX7) (cc := cX7_habits) (n := 2) (ret := (some .int)) (by decide) rfl rfl (Nat.le_of_ble_eq_true rfl) (lv := [(0, .ref (ad 0)), (1, .int p1)]) rfl (fun C => ?_)
  rw [pX7_habits]
  refine g_aload_n C 0 0 dX7_habits_0 rfl ?_
  refine g_iload_n C 1 1 dX7_habits_1 rfl ?_
  refine g_callVi (st := []) (As := [.int p1]) C E0_ok E0_vm 2 0 1 (tX7_isJudge F p1 u) rfl gX7_habits_X7_isJudge rfl rfl rfl (by decide +kernel) ⟨Nat.le_of_ble_eq_true rfl, Nat.le_of_ble_eq_true rfl⟩ rfl rfl rfl (Nat.le_of_ble_eq_true rfl) dX7_habits_2 (fun r2 u1 => ?_)
  refine g_if_eq C 5 16 dX7_habits_5 (by decide) ?_ ?_
  · skip
    refine g_iconst C 16 (-1) dX7_habits_16 rfl ?_
    exact g_iret C 17 dX7_habits_17
  · skip
    refine g_aload_n C 8 0 dX7_habits_8 rfl ?_
    refine g_iload_n C 9 1 dX7_habits_9 rfl ?_
    refine g_callVi (st := []) (As := [.int p1]) C E0_ok E0_vm 10 0 1 (tX7_habitsOf F p1 u1) rfl gX7_habits_X7_habitsOf rfl rfl rfl (by decide +kernel) ⟨Nat.le_of_ble_eq_true rfl, Nat.le_of_ble_eq_true rfl⟩ rfl rfl rfl (Nat.le_of_ble_eq_true rfl) dX7_habits_10 (fun r4 u3 => ?_)
    refine g_goto C 13 17 dX7_habits_13 (by decide) ?_
    exact g_iret C 17 dX7_habits_17
def jX7_slows_67 (F : Nat) (p1 : Int32) (v3 : Int32) (a4 : Int32) (u5 : St) : Option (Int32 × St) :=
  gd (inb (43 + p1) 408) (vl (sta u5 0 (43 + p1) v3) (fun (u6 : St) => some (a4, u6)))
def bX7_slows_25 (F : Nat) (p1 : Int32) (J67 : Int32 → St → Option (Int32 × St)) (self10 : Int32 → Int32 → St → Option (Int32 × St)) (x7 : Int32) (x8 : Int32) (u9 : St) : Option (Int32 × St) :=
  if 9 < x8 then (J67 x7 u9) else gd (inb (43 + p1) 408) (vl (sta u9 0 (43 + p1) x8) (fun (u11 : St) => bd (pX7_isAsSeen F u11) (fun (r13 : Int32) (u12 : St) => jn (fun (a14 : Int32) (u15 : St) => vl (x7 ||| a14) (fun v16 => (self10 v16 (x8 + 1) u15))) (fun (J59 : Int32 → St → Option (Int32 × St)) => if r13 = 0 then (J59 0 u12) else (J59 (1 <<< (x8 &&& 31)) u12)))))
def pX7_slows (F : Nat) (p1 : Int32) (u : St) : Option (Int32 × St) :=
  bd (pX7_isJudge F p1 u) (fun (r2 : Int32) (u1 : St) => if r2 = 0 then some ((-1), u1) else gd (inb (43 + p1) 408) (vl (u1.2 0 (Int32.toNatClampNeg (43 + p1))) (fun v3 => jn (jX7_slows_67 F p1 v3) (fun (J67 : Int32 → St → Option (Int32 × St)) => (lq2 (bX7_slows_25 F p1 J67) F 0 1 u1)))))
set_option maxRecDepth 100000 in
set_option maxHeartbeats 4000000 in
theorem tX7_slows {l : Launch} {D : va_G} {cI cZ : ClassId} {ad : Nat → Nat} (F : Nat) (p1 : Int32) (u : St) : CtI l D [(cI, .int), (cZ, .boolean)] (wM ad cI cZ) E0 yX7_slows wsX7_slows ({ frames := 5, cells := 0, slots := 0, locals := 120 } : Room) [.ref (ad 0), .int p1] u (pX7_slows F p1 u) := by
  refine ctI_of (own := RX7) (cc := cX7_slows) (n := 5) (ret := (some .int)) (by decide) rfl rfl (Nat.le_of_ble_eq_true rfl) (lv := [(0, .ref (ad 0)), (1, .int p1)]) rfl (fun C => ?_)
  have iX7 : ∀ w ∈ wsX70, w ∈ wsX7_slows := fun w h => List.mem_cons_of_mem _ (List.mem_append_right _ (inlX7 w h))
  rw [pX7_slows]
  refine g_aload_n C 0 0 dX7_slows_0 rfl ?_
  refine g_iload_n C 1 1 dX7_slows_1 rfl ?_
  refine g_callVi (st := []) (As := [.int p1]) C E0_ok E0_vm 2 0 1 (tX7_isJudge F p1 u) rfl gX7_slows_X7_isJudge rfl rfl rfl (by decide +kernel) ⟨Nat.le_of_ble_eq_true rfl, Nat.le_of_ble_eq_true rfl⟩ rfl rfl rfl (Nat.le_of_ble_eq_true rfl) dX7_slows_2 (fun r2 u1 => ?_)
  refine g_if_ne C 5 10 dX7_slows_5 (by decide) ?_ ?_
  · skip
    refine g_aload_n C 10 0 dX7_slows_10 rfl ?_
    refine gfM_X7_state C 11 iX7 (List.mem_cons_of_mem _ (List.mem_append_right _ wgL_5_14.1)) dX7_slows_11 ?_
    refine g_bipush C 14 43 dX7_slows_14 rfl ?_
    refine g_iload_n C 16 1 dX7_slows_16 rfl ?_
    refine g_iadd C 17 dX7_slows_17 ?_
    refine g_iald C 18 (1 + 0) 0 (wM_arr 0 (by decide)) rfl dX7_slows_18 ?_
    refine g_istore_nV C 19 (fun v3 => [(2, .int v3), (0, .ref (ad 0)), (1, .int p1)]) dX7_slows_19 (by decide) (fun _ => rfl) (fun v3 => ?_)
    refine g_iconst C 20 0 dX7_slows_20 rfl ?_
    refine g_istore_n C 21 [(3, .int 0), (2, .int v3), (0, .ref (ad 0)), (1, .int p1)] dX7_slows_21 (by decide) rfl ?_
    refine g_iconst C 22 1 dX7_slows_22 rfl ?_
    refine g_istore C 23 [(4, .int 1), (3, .int 0), (2, .int v3), (0, .ref (ad 0)), (1, .int p1)] dX7_slows_23 (by decide) rfl ?_
    refine g_jn1 67 (fun (a4 : Int32) => [(0, .ref (ad 0)), (1, .int p1), (2, .int v3), (3, .int a4)]) (fun (a4 : Int32) => []) (fun a4 u5 => ?_) (fun J67 hJ67 => ?_)
    · skip
      rw [jX7_slows_67]
      refine g_aload_n C 67 0 dX7_slows_67 rfl ?_
      refine gfM_X7_state C 68 iX7 (List.mem_cons_of_mem _ (List.mem_append_right _ wgL_5_14.1)) dX7_slows_68 ?_
      refine g_bipush C 71 43 dX7_slows_71 rfl ?_
      refine g_iload_n C 73 1 dX7_slows_73 rfl ?_
      refine g_iadd C 74 dX7_slows_74 ?_
      refine g_iload_n C 75 2 dX7_slows_75 rfl ?_
      refine g_iast C 76 (1 + 0) 0 0 (wM_arr 0 (by decide)) (wM_aset 0 (by decide)) rfl dX7_slows_76 (fun u6 => ?_)
      refine g_iload_n C 77 3 dX7_slows_77 rfl ?_
      exact g_iret C 78 dX7_slows_78
    · skip
      refine g_sub _ [3, 4, 2, 1, 0] rfl ?_
      refine g_lq2 (fun (x7 : Int32) (x8 : Int32) => [(0, .ref (ad 0)), (1, .int p1), (2, .int v3), (3, .int x7), (4, .int x8)]) (fun self10 hself10 x7 x8 u9 => ?_) F 0 1 u1
      rw [bX7_slows_25]
      refine g_iload C 25 4 dX7_slows_25 rfl ?_
      refine g_bipush C 27 9 dX7_slows_27 rfl ?_
      refine g_icmp_gt C 29 67 dX7_slows_29 (by decide) ?_ ?_
      · skip
        exact g_sub _ [0, 1, 2, 3] rfl (hJ67 x7 u9)
      · skip
        refine g_aload_n C 32 0 dX7_slows_32 rfl ?_
        refine gfM_X7_state C 33 iX7 (List.mem_cons_of_mem _ (List.mem_append_right _ wgL_5_14.1)) dX7_slows_33 ?_
        refine g_bipush C 36 43 dX7_slows_36 rfl ?_
        refine g_iload_n C 38 1 dX7_slows_38 rfl ?_
        refine g_iadd C 39 dX7_slows_39 ?_
        refine g_iload C 40 4 dX7_slows_40 rfl ?_
        refine g_iast C 42 (1 + 0) 0 0 (wM_arr 0 (by decide)) (wM_aset 0 (by decide)) rfl dX7_slows_42 (fun u11 => ?_)
        refine g_iload_n C 43 3 dX7_slows_43 rfl ?_
        refine g_aload_n C 44 0 dX7_slows_44 rfl ?_
        refine g_callVi (st := [.int x7]) (As := []) C E0_ok E0_vm 45 0 0 (tX7_isAsSeen F u11) rfl gX7_slows_X7_isAsSeen rfl rfl rfl (by decide +kernel) ⟨Nat.le_of_ble_eq_true rfl, Nat.le_of_ble_eq_true rfl⟩ rfl rfl rfl (Nat.le_of_ble_eq_true rfl) dX7_slows_45 (fun r13 u12 => ?_)
        refine g_jn1 59 (fun (a14 : Int32) => [(0, .ref (ad 0)), (1, .int p1), (2, .int v3), (4, .int x8)]) (fun (a14 : Int32) => [.int a14, .int x7]) (fun a14 u15 => ?_) (fun J59 hJ59 => ?_)
        · skip
          refine g_ior C 59 dX7_slows_59 ?_
          refine g_istore_nV C 60 (fun v16 => [(3, .int v16), (0, .ref (ad 0)), (1, .int p1), (2, .int v3), (4, .int x8)]) dX7_slows_60 (by decide) (fun _ => rfl) (fun v16 => ?_)
          refine g_iinc C 61 4 [(4, .int (x8 + 1)), (3, .int v16), (0, .ref (ad 0)), (1, .int p1), (2, .int v3)] dX7_slows_61 rfl rfl (by decide) rfl ?_
          refine g_goto C 64 25 dX7_slows_64 (by decide) ?_
          exact g_sub _ [2, 3, 4, 1, 0] rfl (hself10 v16 (x8 + 1) u15)
        · skip
          refine g_if_eq C 48 58 dX7_slows_48 (by decide) ?_ ?_
          · skip
            refine g_iconst C 58 0 dX7_slows_58 rfl ?_
            exact g_sub _ [0, 1, 2, 4] rfl (hJ59 0 u12)
          · skip
            refine g_iconst C 51 1 dX7_slows_51 rfl ?_
            refine g_iload C 52 4 dX7_slows_52 rfl ?_
            refine g_ishl C 54 dX7_slows_54 ?_
            refine g_goto C 55 59 dX7_slows_55 (by decide) ?_
            exact g_sub _ [0, 1, 2, 4] rfl (hJ59 (1 <<< (x8 &&& 31)) u12)
  · skip
    refine g_iconst C 8 (-1) dX7_slows_8 rfl ?_
    exact g_iret C 9 dX7_slows_9
def jX7_ask_195 (F : Nat) (p2 : Int32) (a9 : Int32) (a10 : Int32) (u11 : St) : Option (Int32 × St) :=
  if a10 = (-4) then some (a10, u11) else if p2 = 0 then some (a10, u11) else some (a9, u11)
def jX7_ask_157 (F : Nat) (x12 : Int32) (x13 : Int32) (x14 : Int32) (self16 : Int32 → Int32 → Int32 → St → Option (Int32 × St)) (a17 : Int32) (u18 : St) : Option (Int32 × St) :=
  jn (fun (a19 : Int32) (u20 : St) => jn (fun (a21 : Int32) (u22 : St) => (self16 a21 a19 (x14 + 1) u22)) (fun (J187 : Int32 → St → Option (Int32 × St)) => if x12 ≤ a17 then (J187 x12 u20) else (J187 a17 u20))) (fun (J171 : Int32 → St → Option (Int32 × St)) => if x12 ≤ a17 then (J171 x13 u18) else (J171 x14 u18))
def jX7_ask_135 (F : Nat) (x23 : Int32) (x24 : Int32) (self26 : Int32 → Int32 → St → Option (Int32 × St)) (a27 : Int32) (u28 : St) : Option (Int32 × St) :=
  jn (fun (a29 : Int32) (u30 : St) => (self26 a29 (x24 + 1) u30)) (fun (J149 : Int32 → St → Option (Int32 × St)) => if a27 ≤ x23 then (J149 x23 u28) else (J149 a27 u28))
def bX7_ask_66 (F : Nat) (r6 : Int32) (x14 : Int32) (x24 : Int32) (J135 : Int32 → St → Option (Int32 × St)) (self34 : Int32 → Int32 → St → Option (Int32 × St)) (x31 : Int32) (x32 : Int32) (u33 : St) : Option (Int32 × St) :=
  if 4 ≤ x32 then (J135 x31 u33) else if ((r6 >>> (x24 &&& 31)) &&& 1) = 1 then jn (fun (a35 : Int32) (u36 : St) => vl (x31 + a35) (fun v37 => (self34 v37 (x32 + 1) u36))) (fun (J126 : Int32 → St → Option (Int32 × St)) => jn (fun (u38 : St) => (J126 0 u38)) (fun (J125 : St → Option (Int32 × St)) => if ((r6 >>> (x32 &&& 31)) &&& 1) = 1 then gd (inb ((4 * x24) + x14) 16) (gd (inb ((4 * x32) + x14) 16) (if (u33.2 8 (Int32.toNatClampNeg ((4 * x24) + x14))) = (u33.2 8 (Int32.toNatClampNeg ((4 * x32) + x14))) then (J126 1 u33) else (J125 u33))) else (J125 u33))) else (J135 x31 u33)
def bX7_ask_54 (F : Nat) (r6 : Int32) (x14 : Int32) (J157 : Int32 → St → Option (Int32 × St)) (self26 : Int32 → Int32 → St → Option (Int32 × St)) (x23 : Int32) (x24 : Int32) (u25 : St) : Option (Int32 × St) :=
  if 4 ≤ x24 then (J157 x23 u25) else jn (jX7_ask_135 F x23 x24 self26) (fun (J135 : Int32 → St → Option (Int32 × St)) => (lq2 (bX7_ask_66 F r6 x14 x24 J135) F 0 0 u25))
def bX7_ask_39 (F : Nat) (r6 : Int32) (J195 : Int32 → Int32 → St → Option (Int32 × St)) (self16 : Int32 → Int32 → Int32 → St → Option (Int32 × St)) (x12 : Int32) (x13 : Int32) (x14 : Int32) (u15 : St) : Option (Int32 × St) :=
  if (u15.1 0) ≤ x14 then (J195 x12 x13 u15) else jn (jX7_ask_157 F x12 x13 x14 self16) (fun (J157 : Int32 → St → Option (Int32 × St)) => (lq2 (bX7_ask_54 F r6 x14 J157) F 0 0 u15))
def pX7_ask (F : Nat) (p1 : Int32) (p2 : Int32) (u : St) : Option (Int32 × St) :=
  bd (pX7_isJudge F p1 u) (fun (r2 : Int32) (u1 : St) => if r2 = 0 then some ((-1), u1) else bd (pX7_in F (Int32.toInt64 p2) 0 1 u1) (fun (r4 : Int32) (u3 : St) => if r4 = 0 then some ((-1), u3) else bd (pX7_habitsOf F p1 u3) (fun (r6 : Int32) (u5 : St) => bd (pX7_bitsOf F r6 u5) (fun (r8 : Int32) (u7 : St) => jn (jX7_ask_195 F p2) (fun (J195 : Int32 → Int32 → St → Option (Int32 × St)) => (lq3 (bX7_ask_39 F r6 J195) F r8 (-4) 0 u7))))))
set_option maxRecDepth 100000 in
set_option maxHeartbeats 4000000 in
theorem tX7_ask {l : Launch} {D : va_G} {cI cZ : ClassId} {ad : Nat → Nat} (F : Nat) (p1 : Int32) (p2 : Int32) (u : St) : CtI l D [(cI, .int), (cZ, .boolean)] (wM ad cI cZ) E0 yX7_ask wsX7_ask ({ frames := 6, cells := 0, slots := 0, locals := 145 } : Room) [.ref (ad 0), .int p1, .int p2] u (pX7_ask F p1 p2 u) := by
  refine ctI_of (own := RX7) (cc := cX7_ask) (n := 11) (ret := (some .int)) (by decide) rfl rfl (Nat.le_of_ble_eq_true rfl) (lv := [(0, .ref (ad 0)), (1, .int p1), (2, .int p2)]) rfl (fun C => ?_)
  have iX7 : ∀ w ∈ wsX70, w ∈ wsX7_ask := fun w h => List.mem_cons_of_mem _ (List.mem_append_right _ (inlX7 w h))
  rw [pX7_ask]
  refine g_aload_n C 0 0 dX7_ask_0 rfl ?_
  refine g_iload_n C 1 1 dX7_ask_1 rfl ?_
  refine g_callVi (st := []) (As := [.int p1]) C E0_ok E0_vm 2 0 1 (tX7_isJudge F p1 u) rfl gX7_ask_X7_isJudge rfl rfl rfl (by decide +kernel) ⟨Nat.le_of_ble_eq_true rfl, Nat.le_of_ble_eq_true rfl⟩ rfl rfl rfl (Nat.le_of_ble_eq_true rfl) dX7_ask_2 (fun r2 u1 => ?_)
  refine g_if_eq C 5 18 dX7_ask_5 (by decide) ?_ ?_
  · skip
    refine g_iconst C 18 (-1) dX7_ask_18 rfl ?_
    exact g_iret C 19 dX7_ask_19
  · skip
    refine g_iload_n C 8 2 dX7_ask_8 rfl ?_
    refine g_i2l C 9 dX7_ask_9 ?_
    refine g_lconst C 10 0 dX7_ask_10 rfl ?_
    refine g_lconst C 11 1 dX7_ask_11 rfl ?_
    refine g_callSi (st := []) (As := [.long (Int32.toInt64 p2), .long 0, .long 1]) C E0_ok E0_vm 12 3 (tX7_in F (Int32.toInt64 p2) 0 1 u1) rfl gX7_ask_X7_in rfl rfl rfl (by decide +kernel) ⟨Nat.le_of_ble_eq_true rfl, Nat.le_of_ble_eq_true rfl⟩ rfl (Nat.le_of_ble_eq_true rfl) dX7_ask_12 (fun r4 u3 => ?_)
    refine g_if_ne C 15 20 dX7_ask_15 (by decide) ?_ ?_
    · skip
      refine g_aload_n C 20 0 dX7_ask_20 rfl ?_
      refine g_iload_n C 21 1 dX7_ask_21 rfl ?_
      refine g_callVi (st := []) (As := [.int p1]) C E0_ok E0_vm 22 0 1 (tX7_habitsOf F p1 u3) rfl gX7_ask_X7_habitsOf rfl rfl rfl (by decide +kernel) ⟨Nat.le_of_ble_eq_true rfl, Nat.le_of_ble_eq_true rfl⟩ rfl rfl rfl (Nat.le_of_ble_eq_true rfl) dX7_ask_22 (fun r6 u5 => ?_)
      refine g_istore_n C 25 [(3, .int r6), (0, .ref (ad 0)), (1, .int p1), (2, .int p2)] dX7_ask_25 (by decide) rfl ?_
      refine g_iload_n C 26 0 dX7_ask_26 rfl ?_
      refine g_callSi (st := []) (As := [.int r6]) C E0_ok E0_vm 27 1 (tX7_bitsOf F r6 u5) rfl gX7_ask_X7_bitsOf rfl rfl rfl (by decide +kernel) ⟨Nat.le_of_ble_eq_true rfl, Nat.le_of_ble_eq_true rfl⟩ rfl (Nat.le_of_ble_eq_true rfl) dX7_ask_27 (fun r8 u7 => ?_)
      refine g_istore C 30 [(4, .int r8), (3, .int r6), (0, .ref (ad 0)), (1, .int p1), (2, .int p2)] dX7_ask_30 (by decide) rfl ?_
      refine g_bipush C 32 (-4) dX7_ask_32 rfl ?_
      refine g_istore C 34 [(5, .int (-4)), (4, .int r8), (3, .int r6), (0, .ref (ad 0)), (1, .int p1), (2, .int p2)] dX7_ask_34 (by decide) rfl ?_
      refine g_iconst C 36 0 dX7_ask_36 rfl ?_
      refine g_istore C 37 [(6, .int 0), (5, .int (-4)), (4, .int r8), (3, .int r6), (0, .ref (ad 0)), (1, .int p1), (2, .int p2)] dX7_ask_37 (by decide) rfl ?_
      refine g_jn2 195 (fun (a9 : Int32) (a10 : Int32) => [(2, .int p2), (4, .int a9), (5, .int a10)]) (fun (a9 : Int32) (a10 : Int32) => []) (fun a9 a10 u11 => ?_) (fun J195 hJ195 => ?_)
      · skip
        rw [jX7_ask_195]
        refine g_iload C 195 2 dX7_ask_195 rfl ?_
        refine g_bipush C 197 (-4) dX7_ask_197 rfl ?_
        refine g_icmp_eq C 199 206 dX7_ask_199 (by decide) ?_ ?_
        · skip
          refine g_iload C 206 2 dX7_ask_206 rfl ?_
          refine g_goto C 208 213 dX7_ask_208 (by decide) ?_
          exact g_iret C 213 dX7_ask_213
        · skip
          refine g_iload_n C 202 0 dX7_ask_202 rfl ?_
          refine g_if_ne C 203 211 dX7_ask_203 (by decide) ?_ ?_
          · skip
            refine g_iload C 211 1 dX7_ask_211 rfl ?_
            exact g_iret C 213 dX7_ask_213
          · skip
            refine g_iload C 206 2 dX7_ask_206 rfl ?_
            refine g_goto C 208 213 dX7_ask_208 (by decide) ?_
            exact g_iret C 213 dX7_ask_213
      · skip
        refine g_sub _ [4, 6, 3, 2, 1, 0] rfl ?_
        refine g_lq3 (fun (x12 : Int32) (x13 : Int32) (x14 : Int32) => [(0, .ref (ad 0)), (2, .int p2), (3, .int r6), (4, .int x12), (5, .int x13), (6, .int x14)]) (fun self16 hself16 x12 x13 x14 u15 => ?_) F r8 (-4) 0 u7
        rw [bX7_ask_39]
        refine g_iload C 39 5 dX7_ask_39 rfl ?_
        refine g_aload_n C 41 0 dX7_ask_41 rfl ?_
        refine gfM_X7_caseMany C 42 iX7 (List.mem_cons_of_mem _ (List.mem_append_right _ wgL_15_16.1)) dX7_ask_42 ?_
        refine g_icmp_ge C 45 195 dX7_ask_45 (by decide) ?_ ?_
        · skip
          exact g_sub _ [1, 3, 4] rfl (hJ195 x12 x13 u15)
        · skip
          refine g_iconst C 48 0 dX7_ask_48 rfl ?_
          refine g_istore C 49 [(7, .int 0), (0, .ref (ad 0)), (2, .int p2), (3, .int r6), (4, .int x12), (5, .int x13), (6, .int x14)] dX7_ask_49 (by decide) rfl ?_
          refine g_iconst C 51 0 dX7_ask_51 rfl ?_
          refine g_istore C 52 [(8, .int 0), (7, .int 0), (0, .ref (ad 0)), (2, .int p2), (3, .int r6), (4, .int x12), (5, .int x13), (6, .int x14)] dX7_ask_52 (by decide) rfl ?_
          refine g_jn1 157 (fun (a17 : Int32) => [(0, .ref (ad 0)), (2, .int p2), (3, .int r6), (4, .int x12), (5, .int x13), (6, .int x14), (7, .int a17)]) (fun (a17 : Int32) => []) (fun a17 u18 => ?_) (fun J157 hJ157 => ?_)
          · skip
            rw [jX7_ask_157]
            refine g_iload C 157 6 dX7_ask_157 rfl ?_
            refine g_iload C 159 3 dX7_ask_159 rfl ?_
            refine g_jn1 171 (fun (a19 : Int32) => [(0, .ref (ad 0)), (2, .int p2), (3, .int r6), (4, .int x12), (6, .int x14), (7, .int a17)]) (fun (a19 : Int32) => [.int a19]) (fun a19 u20 => ?_) (fun J171 hJ171 => ?_)
            · skip
              refine g_istore C 171 [(5, .int a19), (0, .ref (ad 0)), (2, .int p2), (3, .int r6), (4, .int x12), (6, .int x14), (7, .int a17)] dX7_ask_171 (by decide) rfl ?_
              refine g_iload C 173 6 dX7_ask_173 rfl ?_
              refine g_iload C 175 4 dX7_ask_175 rfl ?_
              refine g_jn1 187 (fun (a21 : Int32) => [(0, .ref (ad 0)), (2, .int p2), (3, .int r6), (5, .int a19), (6, .int x14)]) (fun (a21 : Int32) => [.int a21]) (fun a21 u22 => ?_) (fun J187 hJ187 => ?_)
              · skip
                refine g_istore C 187 [(4, .int a21), (0, .ref (ad 0)), (2, .int p2), (3, .int r6), (5, .int a19), (6, .int x14)] dX7_ask_187 (by decide) rfl ?_
                refine g_iinc C 189 5 [(6, .int (x14 + 1)), (4, .int a21), (0, .ref (ad 0)), (2, .int p2), (3, .int r6), (5, .int a19)] dX7_ask_189 rfl rfl (by decide) rfl ?_
                refine g_goto C 192 39 dX7_ask_192 (by decide) ?_
                exact g_sub _ [2, 3, 4, 1, 5, 0] rfl (hself16 a21 a19 (x14 + 1) u22)
              · skip
                refine g_icmp_ge C 177 185 dX7_ask_177 (by decide) ?_ ?_
                · skip
                  refine g_iload C 185 4 dX7_ask_185 rfl ?_
                  exact g_sub _ [1, 2, 3, 0, 5] rfl (hJ187 x12 u20)
                · skip
                  refine g_iload C 180 6 dX7_ask_180 rfl ?_
                  refine g_goto C 182 187 dX7_ask_182 (by decide) ?_
                  exact g_sub _ [1, 2, 3, 0, 5] rfl (hJ187 a17 u20)
            · skip
              refine g_icmp_ge C 161 169 dX7_ask_161 (by decide) ?_ ?_
              · skip
                refine g_iload C 169 4 dX7_ask_169 rfl ?_
                exact g_sub _ [0, 1, 2, 3, 5, 6] rfl (hJ171 x13 u18)
              · skip
                refine g_iload C 164 5 dX7_ask_164 rfl ?_
                refine g_goto C 166 171 dX7_ask_166 (by decide) ?_
                exact g_sub _ [0, 1, 2, 3, 5, 6] rfl (hJ171 x14 u18)
          · skip
            refine g_sub _ [2, 3, 4, 5, 6, 7, 1, 0] rfl ?_
            refine g_lq2 (fun (x23 : Int32) (x24 : Int32) => [(0, .ref (ad 0)), (2, .int p2), (3, .int r6), (4, .int x12), (5, .int x13), (6, .int x14), (7, .int x23), (8, .int x24)]) (fun self26 hself26 x23 x24 u25 => ?_) F 0 0 u15
            rw [bX7_ask_54]
            refine g_iload C 54 7 dX7_ask_54 rfl ?_
            refine g_iconst C 56 4 dX7_ask_56 rfl ?_
            refine g_icmp_ge C 57 157 dX7_ask_57 (by decide) ?_ ?_
            · skip
              exact g_sub _ [0, 1, 2, 3, 4, 5, 6] rfl (hJ157 x23 u25)
            · skip
              refine g_iconst C 60 0 dX7_ask_60 rfl ?_
              refine g_istore C 61 [(9, .int 0), (0, .ref (ad 0)), (2, .int p2), (3, .int r6), (4, .int x12), (5, .int x13), (6, .int x14), (7, .int x23), (8, .int x24)] dX7_ask_61 (by decide) rfl ?_
              refine g_iconst C 63 0 dX7_ask_63 rfl ?_
              refine g_istore C 64 [(10, .int 0), (9, .int 0), (0, .ref (ad 0)), (2, .int p2), (3, .int r6), (4, .int x12), (5, .int x13), (6, .int x14), (7, .int x23), (8, .int x24)] dX7_ask_64 (by decide) rfl ?_
              refine g_jn1 135 (fun (a27 : Int32) => [(0, .ref (ad 0)), (2, .int p2), (3, .int r6), (4, .int x12), (5, .int x13), (6, .int x14), (7, .int x23), (8, .int x24), (9, .int a27)]) (fun (a27 : Int32) => []) (fun a27 u28 => ?_) (fun J135 hJ135 => ?_)
              · skip
                rw [jX7_ask_135]
                refine g_iload C 135 8 dX7_ask_135 rfl ?_
                refine g_iload C 137 6 dX7_ask_137 rfl ?_
                refine g_jn1 149 (fun (a29 : Int32) => [(0, .ref (ad 0)), (2, .int p2), (3, .int r6), (4, .int x12), (5, .int x13), (6, .int x14), (8, .int x24)]) (fun (a29 : Int32) => [.int a29]) (fun a29 u30 => ?_) (fun J149 hJ149 => ?_)
                · skip
                  refine g_istore C 149 [(7, .int a29), (0, .ref (ad 0)), (2, .int p2), (3, .int r6), (4, .int x12), (5, .int x13), (6, .int x14), (8, .int x24)] dX7_ask_149 (by decide) rfl ?_
                  refine g_iinc C 151 7 [(8, .int (x24 + 1)), (7, .int a29), (0, .ref (ad 0)), (2, .int p2), (3, .int r6), (4, .int x12), (5, .int x13), (6, .int x14)] dX7_ask_151 rfl rfl (by decide) rfl ?_
                  refine g_goto C 154 54 dX7_ask_154 (by decide) ?_
                  exact g_sub _ [2, 3, 4, 5, 6, 7, 1, 0] rfl (hself26 a29 (x24 + 1) u30)
                · skip
                  refine g_icmp_le C 139 147 dX7_ask_139 (by decide) ?_ ?_
                  · skip
                    refine g_iload C 147 6 dX7_ask_147 rfl ?_
                    exact g_sub _ [0, 1, 2, 3, 4, 5, 7] rfl (hJ149 x23 u28)
                  · skip
                    refine g_iload C 142 8 dX7_ask_142 rfl ?_
                    refine g_goto C 144 149 dX7_ask_144 (by decide) ?_
                    exact g_sub _ [0, 1, 2, 3, 4, 5, 7] rfl (hJ149 a27 u28)
              · skip
                refine g_sub _ [2, 3, 4, 5, 6, 7, 8, 9, 1, 0] rfl ?_
                refine g_lq2 (fun (x31 : Int32) (x32 : Int32) => [(0, .ref (ad 0)), (2, .int p2), (3, .int r6), (4, .int x12), (5, .int x13), (6, .int x14), (7, .int x23), (8, .int x24), (9, .int x31), (10, .int x32)]) (fun self34 hself34 x31 x32 u33 => ?_) F 0 0 u25
                rw [bX7_ask_66]
                refine g_iload C 66 9 dX7_ask_66 rfl ?_
                refine g_iconst C 68 4 dX7_ask_68 rfl ?_
                refine g_icmp_ge C 69 135 dX7_ask_69 (by decide) ?_ ?_
                · skip
                  exact g_sub _ [0, 1, 2, 3, 4, 5, 6, 7, 8] rfl (hJ135 x31 u33)
                · skip
                  refine g_iload_n C 72 2 dX7_ask_72 rfl ?_
                  refine g_iload C 73 7 dX7_ask_73 rfl ?_
                  refine g_ishr C 75 dX7_ask_75 ?_
                  refine g_iconst C 76 1 dX7_ask_76 rfl ?_
                  refine g_iand C 77 dX7_ask_77 ?_
                  refine g_iconst C 78 1 dX7_ask_78 rfl ?_
                  refine g_icmp_ne C 79 135 dX7_ask_79 (by decide) ?_ ?_
                  · skip
                    exact g_sub _ [0, 1, 2, 3, 4, 5, 6, 7, 8] rfl (hJ135 x31 u33)
                  · skip
                    refine g_iload C 82 8 dX7_ask_82 rfl ?_
                    refine g_iload_n C 84 2 dX7_ask_84 rfl ?_
                    refine g_iload C 85 9 dX7_ask_85 rfl ?_
                    refine g_ishr C 87 dX7_ask_87 ?_
                    refine g_iconst C 88 1 dX7_ask_88 rfl ?_
                    refine g_iand C 89 dX7_ask_89 ?_
                    refine g_iconst C 90 1 dX7_ask_90 rfl ?_
                    refine g_jn1 126 (fun (a35 : Int32) => [(0, .ref (ad 0)), (2, .int p2), (3, .int r6), (4, .int x12), (5, .int x13), (6, .int x14), (7, .int x23), (8, .int x24), (10, .int x32)]) (fun (a35 : Int32) => [.int a35, .int x31]) (fun a35 u36 => ?_) (fun J126 hJ126 => ?_)
                    · skip
                      refine g_iadd C 126 dX7_ask_126 ?_
                      refine g_istoreV C 127 (fun v37 => [(9, .int v37), (0, .ref (ad 0)), (2, .int p2), (3, .int r6), (4, .int x12), (5, .int x13), (6, .int x14), (7, .int x23), (8, .int x24), (10, .int x32)]) dX7_ask_127 (by decide) (fun _ => rfl) (fun v37 => ?_)
                      refine g_iinc C 129 9 [(10, .int (x32 + 1)), (9, .int v37), (0, .ref (ad 0)), (2, .int p2), (3, .int r6), (4, .int x12), (5, .int x13), (6, .int x14), (7, .int x23), (8, .int x24)] dX7_ask_129 rfl rfl (by decide) rfl ?_
                      refine g_goto C 132 66 dX7_ask_132 (by decide) ?_
                      exact g_sub _ [2, 3, 4, 5, 6, 7, 8, 9, 1, 0] rfl (hself34 v37 (x32 + 1) u36)
                    · skip
                      refine g_jn0 125 ([(0, .ref (ad 0)), (2, .int p2), (3, .int r6), (4, .int x12), (5, .int x13), (6, .int x14), (7, .int x23), (8, .int x24), (10, .int x32)]) ([.int x31]) (fun u38 => ?_) (fun J125 hJ125 => ?_)
                      · skip
                        refine g_iconst C 125 0 dX7_ask_125 rfl ?_
                        exact g_sub _ [0, 1, 2, 3, 4, 5, 6, 7, 8] rfl (hJ126 0 u38)
                      · skip
                        refine g_icmp_ne C 91 125 dX7_ask_91 (by decide) ?_ ?_
                        · skip
                          exact g_sub _ [0, 1, 2, 3, 4, 5, 6, 7, 9] rfl (hJ125 u33)
                        · skip
                          refine g_aload_n C 94 0 dX7_ask_94 rfl ?_
                          refine gfM_X7_verdictBy C 95 iX7 (List.mem_cons_of_mem _ (List.mem_append_right _ wgL_5_22.1)) dX7_ask_95 ?_
                          refine g_iconst C 98 4 dX7_ask_98 rfl ?_
                          refine g_iload C 99 7 dX7_ask_99 rfl ?_
                          refine g_imul C 101 dX7_ask_101 ?_
                          refine g_iload C 102 5 dX7_ask_102 rfl ?_
                          refine g_iadd C 104 dX7_ask_104 ?_
                          refine g_iald C 105 (1 + 8) 0 (wM_arr 8 (by decide)) rfl dX7_ask_105 ?_
                          refine g_aload_n C 106 0 dX7_ask_106 rfl ?_
                          refine gfM_X7_verdictBy C 107 iX7 (List.mem_cons_of_mem _ (List.mem_append_right _ wgL_5_22.1)) dX7_ask_107 ?_
                          refine g_iconst C 110 4 dX7_ask_110 rfl ?_
                          refine g_iload C 111 9 dX7_ask_111 rfl ?_
                          refine g_imul C 113 dX7_ask_113 ?_
                          refine g_iload C 114 5 dX7_ask_114 rfl ?_
                          refine g_iadd C 116 dX7_ask_116 ?_
                          refine g_iald C 117 (1 + 8) 0 (wM_arr 8 (by decide)) rfl dX7_ask_117 ?_
                          refine g_icmp_ne C 118 125 dX7_ask_118 (by decide) ?_ ?_
                          · skip
                            exact g_sub _ [0, 1, 2, 3, 4, 5, 6, 7, 9] rfl (hJ125 u33)
                          · skip
                            refine g_iconst C 121 1 dX7_ask_121 rfl ?_
                            refine g_goto C 122 126 dX7_ask_122 (by decide) ?_
                            exact g_sub _ [0, 1, 2, 3, 4, 5, 6, 7, 9] rfl (hJ126 1 u33)
    · skip
      refine g_iconst C 18 (-1) dX7_ask_18 rfl ?_
      exact g_iret C 19 dX7_ask_19
def jX7_drift_165 (F : Nat) (p3 : Int32) (a6 : Int32) (u7 : St) : Option (Int32 × St) :=
  if p3 = 0 then some (a6, u7) else bd (pX7_lengthsOn F 272 u7) (fun (r9 : Int32) (u8 : St) => some (r9, u8))
def bX7_drift_58 (F : Nat) (p2 : Int32) (J165 : Int32 → St → Option (Int32 × St)) (self14 : Int32 → Int32 → Int32 → St → Option (Int32 × St)) (x10 : Int32) (x11 : Int32) (x12 : Int32) (u13 : St) : Option (Int32 × St) :=
  if p2 ≤ x12 then (J165 x11 u13) else vl ((x10 * 1103515245) + 12345) (fun v15 => vl ((v15 >>> (16 &&& 31)) &&& 32767) (fun v16 => gd (nz (u13.1 0)) (vl (irm v16 (u13.1 0)) (fun v17 => gd (nz 8) (gd (nz 2) (gd (nz 16) (gd (nz 20) (gd (inb ((280 + (2 * v17)) + (irm (v16 / 8) 2)) 408) (vl (sta u13 0 ((280 + (2 * v17)) + (irm (v16 / 8) 2)) (irm (v16 / 16) 20)) (fun (u18 : St) => gd (nz 512) (gd (nz (u18.1 1)) (bd (pX7_hearsOn F 272 v17 (irm (v16 / 512) (u18.1 1)) u18) (fun (r20 : Int32) (u19 : St) => jn (fun (a21 : Int32) (u22 : St) => vl (x11 + a21) (fun v23 => (self14 v15 v23 (x12 + 1) u22))) (fun (J156 : Int32 → St → Option (Int32 × St)) => if r20 = 1 then (J156 1 u19) else (J156 0 u19)))))))))))))))
def pX7_drift (F : Nat) (p1 : Int32) (p2 : Int32) (p3 : Int32) (u : St) : Option (Int32 × St) :=
  bd (pX7_in F (Int32.toInt64 p2) 1 60 u) (fun (r2 : Int32) (u1 : St) => if r2 = 0 then some ((-1), u1) else bd (pX7_in F (Int32.toInt64 p3) 0 1 u1) (fun (r4 : Int32) (u3 : St) => if r4 = 0 then some ((-1), u3) else if (u3.1 0) = 0 then some ((-2), u3) else if (u3.1 1) = 0 then some ((-2), u3) else bd (pX7_copies F 0 272 u3) (fun (_ : Unit) (u5 : St) => jn (jX7_drift_165 F p3) (fun (J165 : Int32 → St → Option (Int32 × St)) => (lq3 (bX7_drift_58 F p2 J165) F p1 0 0 u5)))))
set_option maxRecDepth 100000 in
set_option maxHeartbeats 4000000 in
theorem tX7_drift {l : Launch} {D : va_G} {cI cZ : ClassId} {ad : Nat → Nat} (F : Nat) (p1 : Int32) (p2 : Int32) (p3 : Int32) (u : St) : CtI l D [(cI, .int), (cZ, .boolean)] (wM ad cI cZ) E0 yX7_drift wsX7_drift ({ frames := 3, cells := 0, slots := 0, locals := 75 } : Room) [.ref (ad 0), .int p1, .int p2, .int p3] u (pX7_drift F p1 p2 p3 u) := by
  refine ctI_of (own := RX7) (cc := cX7_drift) (n := 9) (ret := (some .int)) (by decide) rfl rfl (Nat.le_of_ble_eq_true rfl) (lv := [(0, .ref (ad 0)), (1, .int p1), (2, .int p2), (3, .int p3)]) rfl (fun C => ?_)
  have iX7 : ∀ w ∈ wsX70, w ∈ wsX7_drift := fun w h => List.mem_cons_of_mem _ (List.mem_append_right _ (inlX7 w h))
  rw [pX7_drift]
  refine g_iload_n C 0 2 dX7_drift_0 rfl ?_
  refine g_i2l C 1 dX7_drift_1 ?_
  refine g_lconst C 2 1 dX7_drift_2 rfl ?_
  refine g_ldc2 C 3 60 (by decide +kernel) dX7_drift_3 ?_
  refine g_callSi (st := []) (As := [.long (Int32.toInt64 p2), .long 1, .long 60]) C E0_ok E0_vm 6 3 (tX7_in F (Int32.toInt64 p2) 1 60 u) rfl gX7_drift_X7_in rfl rfl rfl (by decide +kernel) ⟨Nat.le_of_ble_eq_true rfl, Nat.le_of_ble_eq_true rfl⟩ rfl (Nat.le_of_ble_eq_true rfl) dX7_drift_6 (fun r2 u1 => ?_)
  refine g_if_eq C 9 22 dX7_drift_9 (by decide) ?_ ?_
  · skip
    refine g_iconst C 22 (-1) dX7_drift_22 rfl ?_
    exact g_iret C 23 dX7_drift_23
  · skip
    refine g_iload_n C 12 3 dX7_drift_12 rfl ?_
    refine g_i2l C 13 dX7_drift_13 ?_
    refine g_lconst C 14 0 dX7_drift_14 rfl ?_
    refine g_lconst C 15 1 dX7_drift_15 rfl ?_
    refine g_callSi (st := []) (As := [.long (Int32.toInt64 p3), .long 0, .long 1]) C E0_ok E0_vm 16 3 (tX7_in F (Int32.toInt64 p3) 0 1 u1) rfl gX7_drift_X7_in rfl rfl rfl (by decide +kernel) ⟨Nat.le_of_ble_eq_true rfl, Nat.le_of_ble_eq_true rfl⟩ rfl (Nat.le_of_ble_eq_true rfl) dX7_drift_16 (fun r4 u3 => ?_)
    refine g_if_ne C 19 24 dX7_drift_19 (by decide) ?_ ?_
    · skip
      refine g_aload_n C 24 0 dX7_drift_24 rfl ?_
      refine gfM_X7_caseMany C 25 iX7 (List.mem_cons_of_mem _ (List.mem_append_right _ wgL_15_16.1)) dX7_drift_25 ?_
      refine g_if_eq C 28 38 dX7_drift_28 (by decide) ?_ ?_
      · skip
        refine g_bipush C 38 (-2) dX7_drift_38 rfl ?_
        exact g_iret C 40 dX7_drift_40
      · skip
        refine g_aload_n C 31 0 dX7_drift_31 rfl ?_
        refine gfM_X7_judgeMany C 32 iX7 (List.mem_cons_of_mem _ (List.mem_append_right _ wgL_15_17.1)) dX7_drift_32 ?_
        refine g_if_ne C 35 41 dX7_drift_35 (by decide) ?_ ?_
        · skip
          refine g_aload_n C 41 0 dX7_drift_41 rfl ?_
          refine g_iconst C 42 0 dX7_drift_42 rfl ?_
          refine g_sipush C 43 272 dX7_drift_43 rfl ?_
          refine g_callVv (st := []) (As := [.int 0, .int 272]) C E0_ok E0_vm 46 0 2 (tX7_copies F 0 272 u3) rfl gX7_drift_X7_copies rfl rfl rfl (by decide +kernel) ⟨Nat.le_of_ble_eq_true rfl, Nat.le_of_ble_eq_true rfl⟩ rfl rfl rfl (Nat.le_of_ble_eq_true rfl) dX7_drift_46 (fun u5 => ?_)
          refine g_iload_n C 49 1 dX7_drift_49 rfl ?_
          refine g_istore C 50 [(4, .int p1), (0, .ref (ad 0)), (1, .int p1), (2, .int p2), (3, .int p3)] dX7_drift_50 (by decide) rfl ?_
          refine g_iconst C 52 0 dX7_drift_52 rfl ?_
          refine g_istore C 53 [(5, .int 0), (4, .int p1), (0, .ref (ad 0)), (1, .int p1), (2, .int p2), (3, .int p3)] dX7_drift_53 (by decide) rfl ?_
          refine g_iconst C 55 0 dX7_drift_55 rfl ?_
          refine g_istore C 56 [(6, .int 0), (5, .int 0), (4, .int p1), (0, .ref (ad 0)), (1, .int p1), (2, .int p2), (3, .int p3)] dX7_drift_56 (by decide) rfl ?_
          refine g_jn1 165 (fun (a6 : Int32) => [(0, .ref (ad 0)), (3, .int p3), (5, .int a6)]) (fun (a6 : Int32) => []) (fun a6 u7 => ?_) (fun J165 hJ165 => ?_)
          · skip
            rw [jX7_drift_165]
            refine g_iload_n C 165 1 dX7_drift_165 rfl ?_
            refine g_if_ne C 166 174 dX7_drift_166 (by decide) ?_ ?_
            · skip
              refine g_aload_n C 174 0 dX7_drift_174 rfl ?_
              refine g_sipush C 175 272 dX7_drift_175 rfl ?_
              refine g_callVi (st := []) (As := [.int 272]) C E0_ok E0_vm 178 0 1 (tX7_lengthsOn F 272 u7) rfl gX7_drift_X7_lengthsOn rfl rfl rfl (by decide +kernel) ⟨Nat.le_of_ble_eq_true rfl, Nat.le_of_ble_eq_true rfl⟩ rfl rfl rfl (Nat.le_of_ble_eq_true rfl) dX7_drift_178 (fun r9 u8 => ?_)
              exact g_iret C 181 dX7_drift_181
            · skip
              refine g_iload C 169 2 dX7_drift_169 rfl ?_
              refine g_goto C 171 181 dX7_drift_171 (by decide) ?_
              exact g_iret C 181 dX7_drift_181
          · skip
            refine g_sub _ [3, 5, 6, 2, 1, 0] rfl ?_
            refine g_lq3 (fun (x10 : Int32) (x11 : Int32) (x12 : Int32) => [(0, .ref (ad 0)), (2, .int p2), (3, .int p3), (4, .int x10), (5, .int x11), (6, .int x12)]) (fun self14 hself14 x10 x11 x12 u13 => ?_) F p1 0 0 u5
            rw [bX7_drift_58]
            refine g_iload C 58 5 dX7_drift_58 rfl ?_
            refine g_iload_n C 60 1 dX7_drift_60 rfl ?_
            refine g_icmp_ge C 61 165 dX7_drift_61 (by decide) ?_ ?_
            · skip
              exact g_sub _ [0, 2, 4] rfl (hJ165 x11 u13)
            · skip
              refine g_iload C 64 3 dX7_drift_64 rfl ?_
              refine g_ldcw C 66 1103515245 (by decide +kernel) dX7_drift_66 ?_
              refine g_imul C 69 dX7_drift_69 ?_
              refine g_sipush C 70 12345 dX7_drift_70 rfl ?_
              refine g_iadd C 73 dX7_drift_73 ?_
              refine g_istoreV C 74 (fun v15 => [(4, .int v15), (0, .ref (ad 0)), (2, .int p2), (3, .int p3), (5, .int x11), (6, .int x12)]) dX7_drift_74 (by decide) (fun _ => rfl) (fun v15 => ?_)
              refine g_iload C 76 0 dX7_drift_76 rfl ?_
              refine g_bipush C 78 16 dX7_drift_78 rfl ?_
              refine g_ishr C 80 dX7_drift_80 ?_
              refine g_sipush C 81 32767 dX7_drift_81 rfl ?_
              refine g_iand C 84 dX7_drift_84 ?_
              refine g_istoreV C 85 (fun v16 => [(7, .int v16), (4, .int v15), (0, .ref (ad 0)), (2, .int p2), (3, .int p3), (5, .int x11), (6, .int x12)]) dX7_drift_85 (by decide) (fun _ => rfl) (fun v16 => ?_)
              refine g_iload C 87 0 dX7_drift_87 rfl ?_
              refine g_aload_n C 89 2 dX7_drift_89 rfl ?_
              refine gfM_X7_caseMany C 90 iX7 (List.mem_cons_of_mem _ (List.mem_append_right _ wgL_15_16.1)) dX7_drift_90 ?_
              refine g_irem C 93 dX7_drift_93 ?_
              refine g_istoreV C 94 (fun v17 => [(8, .int v17), (7, .int v16), (4, .int v15), (0, .ref (ad 0)), (2, .int p2), (3, .int p3), (5, .int x11), (6, .int x12)]) dX7_drift_94 (by decide) (fun _ => rfl) (fun v17 => ?_)
              refine g_aload_n C 96 3 dX7_drift_96 rfl ?_
              refine gfM_X7_state C 97 iX7 (List.mem_cons_of_mem _ (List.mem_append_right _ wgL_5_14.1)) dX7_drift_97 ?_
              refine g_sipush C 100 280 dX7_drift_100 rfl ?_
              refine g_iconst C 103 2 dX7_drift_103 rfl ?_
              refine g_iload C 104 0 dX7_drift_104 rfl ?_
              refine g_imul C 106 dX7_drift_106 ?_
              refine g_iadd C 107 dX7_drift_107 ?_
              refine g_iload C 108 1 dX7_drift_108 rfl ?_
              refine g_bipush C 110 8 dX7_drift_110 rfl ?_
              refine g_idiv C 112 dX7_drift_112 ?_
              refine g_iconst C 113 2 dX7_drift_113 rfl ?_
              refine g_irem C 114 dX7_drift_114 ?_
              refine g_iadd C 115 dX7_drift_115 ?_
              refine g_iload C 116 1 dX7_drift_116 rfl ?_
              refine g_bipush C 118 16 dX7_drift_118 rfl ?_
              refine g_idiv C 120 dX7_drift_120 ?_
              refine g_bipush C 121 20 dX7_drift_121 rfl ?_
              refine g_irem C 123 dX7_drift_123 ?_
              refine g_iast C 124 (1 + 0) 0 0 (wM_arr 0 (by decide)) (wM_aset 0 (by decide)) rfl dX7_drift_124 (fun u18 => ?_)
              refine g_iload C 125 6 dX7_drift_125 rfl ?_
              refine g_aload_n C 127 3 dX7_drift_127 rfl ?_
              refine g_sipush C 128 272 dX7_drift_128 rfl ?_
              refine g_iload C 131 0 dX7_drift_131 rfl ?_
              refine g_iload C 133 1 dX7_drift_133 rfl ?_
              refine g_sipush C 135 512 dX7_drift_135 rfl ?_
              refine g_idiv C 138 dX7_drift_138 ?_
              refine g_aload_n C 139 3 dX7_drift_139 rfl ?_
              refine gfM_X7_judgeMany C 140 iX7 (List.mem_cons_of_mem _ (List.mem_append_right _ wgL_15_17.1)) dX7_drift_140 ?_
              refine g_irem C 143 dX7_drift_143 ?_
              refine g_callVi (st := [.int x11]) (As := [.int 272, .int v17, .int (irm (v16 / 512) (u18.1 1))]) C E0_ok E0_vm 144 0 3 (tX7_hearsOn F 272 v17 (irm (v16 / 512) (u18.1 1)) u18) rfl gX7_drift_X7_hearsOn rfl rfl rfl (by decide +kernel) ⟨Nat.le_of_ble_eq_true rfl, Nat.le_of_ble_eq_true rfl⟩ rfl rfl rfl (Nat.le_of_ble_eq_true rfl) dX7_drift_144 (fun r20 u19 => ?_)
              refine g_iconst C 147 1 dX7_drift_147 rfl ?_
              refine g_jn1 156 (fun (a21 : Int32) => [(0, .ref (ad 0)), (2, .int p2), (3, .int p3), (4, .int v15), (6, .int x12)]) (fun (a21 : Int32) => [.int a21, .int x11]) (fun a21 u22 => ?_) (fun J156 hJ156 => ?_)
              · skip
                refine g_iadd C 156 dX7_drift_156 ?_
                refine g_istoreV C 157 (fun v23 => [(5, .int v23), (0, .ref (ad 0)), (2, .int p2), (3, .int p3), (4, .int v15), (6, .int x12)]) dX7_drift_157 (by decide) (fun _ => rfl) (fun v23 => ?_)
                refine g_iinc C 159 5 [(6, .int (x12 + 1)), (5, .int v23), (0, .ref (ad 0)), (2, .int p2), (3, .int p3), (4, .int v15)] dX7_drift_159 rfl rfl (by decide) rfl ?_
                refine g_goto C 162 58 dX7_drift_162 (by decide) ?_
                exact g_sub _ [2, 3, 4, 5, 1, 0] rfl (hself14 v15 v23 (x12 + 1) u22)
              · skip
                refine g_icmp_ne C 148 155 dX7_drift_148 (by decide) ?_ ?_
                · skip
                  refine g_iconst C 155 0 dX7_drift_155 rfl ?_
                  exact g_sub _ [3, 4, 5, 2, 7] rfl (hJ156 0 u19)
                · skip
                  refine g_iconst C 151 1 dX7_drift_151 rfl ?_
                  refine g_goto C 152 156 dX7_drift_152 (by decide) ?_
                  exact g_sub _ [3, 4, 5, 2, 7] rfl (hJ156 1 u19)
        · skip
          refine g_bipush C 38 (-2) dX7_drift_38 rfl ?_
          exact g_iret C 40 dX7_drift_40
    · skip
      refine g_iconst C 22 (-1) dX7_drift_22 rfl ?_
      exact g_iret C 23 dX7_drift_23
def pX7_keep (F : Nat) (p1 : Int32) (u : St) : Option (Int32 × St) :=
  bd (pX7_in F (Int32.toInt64 p1) 0 1 u) (fun (r2 : Int32) (u1 : St) => if r2 = 0 then some ((-1), u1) else bd (pX7_copies F 0 (68 * (p1 + 1)) u1) (fun (_ : Unit) (u3 : St) => gd (inb p1 2) (jn (fun (a4 : Int32) (u5 : St) => gd (inb p1 2) (vl (stz u5 12 p1 1) (fun (u6 : St) => some (a4, u6)))) (fun (J37 : Int32 → St → Option (Int32 × St)) => if (u3.2 12 (Int32.toNatClampNeg p1)) = 0 then (J37 0 u3) else (J37 1 u3)))))
set_option maxRecDepth 100000 in
set_option maxHeartbeats 4000000 in
theorem tX7_keep {l : Launch} {D : va_G} {cI cZ : ClassId} {ad : Nat → Nat} (F : Nat) (p1 : Int32) (u : St) : CtI l D [(cI, .int), (cZ, .boolean)] (wM ad cI cZ) E0 yX7_keep wsX7_keep ({ frames := 1, cells := 0, slots := 0, locals := 25 } : Room) [.ref (ad 0), .int p1] u (pX7_keep F p1 u) := by
  refine ctI_of (own := RX7) (cc := cX7_keep) (n := 3) (ret := (some .int)) (by decide) rfl rfl (Nat.le_of_ble_eq_true rfl) (lv := [(0, .ref (ad 0)), (1, .int p1)]) rfl (fun C => ?_)
  have iX7 : ∀ w ∈ wsX70, w ∈ wsX7_keep := fun w h => List.mem_cons_of_mem _ (List.mem_append_right _ (inlX7 w h))
  rw [pX7_keep]
  refine g_iload_n C 0 1 dX7_keep_0 rfl ?_
  refine g_i2l C 1 dX7_keep_1 ?_
  refine g_lconst C 2 0 dX7_keep_2 rfl ?_
  refine g_lconst C 3 1 dX7_keep_3 rfl ?_
  refine g_callSi (st := []) (As := [.long (Int32.toInt64 p1), .long 0, .long 1]) C E0_ok E0_vm 4 3 (tX7_in F (Int32.toInt64 p1) 0 1 u) rfl gX7_keep_X7_in rfl rfl rfl (by decide +kernel) ⟨Nat.le_of_ble_eq_true rfl, Nat.le_of_ble_eq_true rfl⟩ rfl (Nat.le_of_ble_eq_true rfl) dX7_keep_4 (fun r2 u1 => ?_)
  refine g_if_ne C 7 12 dX7_keep_7 (by decide) ?_ ?_
  · skip
    refine g_aload_n C 12 0 dX7_keep_12 rfl ?_
    refine g_iconst C 13 0 dX7_keep_13 rfl ?_
    refine g_bipush C 14 68 dX7_keep_14 rfl ?_
    refine g_iload_n C 16 1 dX7_keep_16 rfl ?_
    refine g_iconst C 17 1 dX7_keep_17 rfl ?_
    refine g_iadd C 18 dX7_keep_18 ?_
    refine g_imul C 19 dX7_keep_19 ?_
    refine g_callVv (st := []) (As := [.int 0, .int (68 * (p1 + 1))]) C E0_ok E0_vm 20 0 2 (tX7_copies F 0 (68 * (p1 + 1)) u1) rfl gX7_keep_X7_copies rfl rfl rfl (by decide +kernel) ⟨Nat.le_of_ble_eq_true rfl, Nat.le_of_ble_eq_true rfl⟩ rfl rfl rfl (Nat.le_of_ble_eq_true rfl) dX7_keep_20 (fun u3 => ?_)
    refine g_aload_n C 23 0 dX7_keep_23 rfl ?_
    refine gfM_X7_isKept C 24 iX7 (List.mem_cons_of_mem _ (List.mem_append_right _ wgL_5_23.1)) dX7_keep_24 ?_
    refine g_iload_n C 27 1 dX7_keep_27 rfl ?_
    refine g_zald C 28 (1 + 12) 1 (wM_arrz 12 (by decide) (by decide)) rfl dX7_keep_28 ?_
    refine g_jn1 37 (fun (a4 : Int32) => [(0, .ref (ad 0)), (1, .int p1)]) (fun (a4 : Int32) => [.int a4]) (fun a4 u5 => ?_) (fun J37 hJ37 => ?_)
    · skip
      refine g_istore_n C 37 [(2, .int a4), (0, .ref (ad 0)), (1, .int p1)] dX7_keep_37 (by decide) rfl ?_
      refine g_aload_n C 38 1 dX7_keep_38 rfl ?_
      refine gfM_X7_isKept C 39 iX7 (List.mem_cons_of_mem _ (List.mem_append_right _ wgL_5_23.1)) dX7_keep_39 ?_
      refine g_iload_n C 42 2 dX7_keep_42 rfl ?_
      refine g_iconst C 43 1 dX7_keep_43 rfl ?_
      refine g_zast C 44 (1 + 12) 1 12 (wM_arrz 12 (by decide) (by decide)) (wM_asetz 12 (by decide) (by decide)) rfl dX7_keep_44 (fun u6 => ?_)
      refine g_iload_n C 45 0 dX7_keep_45 rfl ?_
      exact g_iret C 46 dX7_keep_46
    · skip
      refine g_if_eq C 29 36 dX7_keep_29 (by decide) ?_ ?_
      · skip
        refine g_iconst C 36 0 dX7_keep_36 rfl ?_
        exact g_sub _ [0, 1] rfl (hJ37 0 u3)
      · skip
        refine g_iconst C 32 1 dX7_keep_32 rfl ?_
        refine g_goto C 33 37 dX7_keep_33 (by decide) ?_
        exact g_sub _ [0, 1] rfl (hJ37 1 u3)
  · skip
    refine g_iconst C 10 (-1) dX7_keep_10 rfl ?_
    exact g_iret C 11 dX7_keep_11
