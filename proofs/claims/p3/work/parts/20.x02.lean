def pX6_rule (F : Nat) (p1 : Int32) (u : St) : Option (Int32 × St) :=
  if p1 = 0 then some ((u.1 0), u) else if p1 = 1 then some ((u.1 1), u) else if p1 = 2 then some ((u.1 2), u) else if p1 = 3 then some ((u.1 3), u) else if p1 = 4 then bd (pX6_bitsOf F 3 (u.1 0) 1 u) (fun (r2 : Int32) (u1 : St) => some (r2, u1)) else if p1 = 5 then bd (pX6_bitsOf F 3 (u.1 0) 2 u) (fun (r4 : Int32) (u3 : St) => some (r4, u3)) else if p1 = 6 then bd (pX6_bitsOf F 3 (u.1 0) 3 u) (fun (r6 : Int32) (u5 : St) => some (r6, u5)) else if p1 = 7 then bd (pX0_sumOf F 0 1 u) (fun (r8 : Int32) (u7 : St) => some (r8, u7)) else some ((-1), u)
set_option maxRecDepth 100000 in
set_option maxHeartbeats 4000000 in
theorem tX6_rule {l : Launch} {D : va_G} {cI cZ : ClassId} {ad : Nat → Nat} {tBURNS tFLAME_BOUNDS : Nat} {tS : Option Nat} {adK adV : Nat → Nat} (F : Nat) (p1 : Int32) (u : St) : CtI l D [(cI, .int), (cZ, .boolean)] (wX ad cI cZ) (EX tBURNS tFLAME_BOUNDS tS adK adV) yX6_rule wsX6_rule ({ frames := 1, cells := 0, slots := 0, locals := 24 } : Room) [.ref (ad 0), .int p1] u (pX6_rule F p1 u) := by
  refine ctI_of (own := RX6) (cc := cX6_rule) (n := 2) (ret := (some .int)) (by decide) rfl rfl (Nat.le_of_ble_eq_true rfl) (lv := [(0, .ref (ad 0)), (1, .int p1)]) rfl (fun C => ?_)
  have iX0 : ∀ w ∈ wsX00, w ∈ wsX6_rule := fun w h => List.mem_cons_of_mem _ (List.mem_append_right _ (inlX0 w h))
  have iX6 : ∀ w ∈ wsX60, w ∈ wsX6_rule := fun w h => List.mem_cons_of_mem _ (List.mem_append_right _ (inlX6 w h))
  rw [pX6_rule]
  refine g_iload_n C 0 1 dX6_rule_0 rfl ?_
  refine g_tsw C 1 48 0 dX6_rule_1 (by decide) rfl (by decide) ?_ (fun q0 => ?_)
  · skip
    refine g_aload_n C 48 0 dX6_rule_48 rfl ?_
    refine gfX_X6_court C 49 iX6 (List.mem_cons_of_mem _ (List.mem_append_right _ wgL_1_15.1)) dX6_rule_49 ?_
    refine gfX_X0_cases 0 (by decide) C 52 iX0 (List.mem_cons_of_mem _ (List.mem_append_right _ wgL_18_5.1)) dX6_rule_52 ?_
    exact g_iret C 55 dX6_rule_55
  refine g_tsw C 1 56 1 dX6_rule_1 (by decide) rfl (by decide) ?_ (fun q1 => ?_)
  · skip
    refine g_aload_n C 56 0 dX6_rule_56 rfl ?_
    refine gfX_X6_court C 57 iX6 (List.mem_cons_of_mem _ (List.mem_append_right _ wgL_1_15.1)) dX6_rule_57 ?_
    refine gfX_X0_judges 0 (by decide) C 60 iX0 (List.mem_cons_of_mem _ (List.mem_append_right _ wgL_18_6.1)) dX6_rule_60 ?_
    exact g_iret C 63 dX6_rule_63
  refine g_tsw C 1 64 2 dX6_rule_1 (by decide) rfl (by decide) ?_ (fun q2 => ?_)
  · skip
    refine g_aload_n C 64 0 dX6_rule_64 rfl ?_
    refine gfX_X6_court C 65 iX6 (List.mem_cons_of_mem _ (List.mem_append_right _ wgL_1_15.1)) dX6_rule_65 ?_
    refine gfX_X0_draughts 0 (by decide) C 68 iX0 (List.mem_cons_of_mem _ (List.mem_append_right _ wgL_18_7.1)) dX6_rule_68 ?_
    exact g_iret C 71 dX6_rule_71
  refine g_tsw C 1 72 3 dX6_rule_1 (by decide) rfl (by decide) ?_ (fun q3 => ?_)
  · skip
    refine g_aload_n C 72 0 dX6_rule_72 rfl ?_
    refine gfX_X6_court C 73 iX6 (List.mem_cons_of_mem _ (List.mem_append_right _ wgL_1_15.1)) dX6_rule_73 ?_
    refine gfX_X0_hearings 0 (by decide) C 76 iX0 (List.mem_cons_of_mem _ (List.mem_append_right _ wgL_18_8.1)) dX6_rule_76 ?_
    exact g_iret C 79 dX6_rule_79
  refine g_tsw C 1 80 4 dX6_rule_1 (by decide) rfl (by decide) ?_ (fun q4 => ?_)
  · skip
    refine g_aload_n C 80 0 dX6_rule_80 rfl ?_
    refine gfX_X6_court C 81 iX6 (List.mem_cons_of_mem _ (List.mem_append_right _ wgL_1_15.1)) dX6_rule_81 ?_
    refine gfX_X0_verdict 0 (by decide) C 84 iX0 (List.mem_cons_of_mem _ (List.mem_append_right _ wgL_18_9.1)) dX6_rule_84 ?_
    refine g_aload_n C 87 0 dX6_rule_87 rfl ?_
    refine gfX_X6_court C 88 iX6 (List.mem_cons_of_mem _ (List.mem_append_right _ wgL_1_15.1)) dX6_rule_88 ?_
    refine gfX_X0_cases 0 (by decide) C 91 iX0 (List.mem_cons_of_mem _ (List.mem_append_right _ wgL_18_5.1)) dX6_rule_91 ?_
    refine g_iconst C 94 1 dX6_rule_94 rfl ?_
    refine g_callSi (st := []) (As := [.ref (ad (10 + 3)), .int (u.1 0), .int 1]) C EX_ok EX_vm 95 3 (tX6_bitsOf F 3 (by decide) (u.1 0) 1 u) rfl gX6_rule_X6_bitsOf rfl rfl rfl (by decide +kernel) ⟨Nat.le_of_ble_eq_true rfl, Nat.le_of_ble_eq_true rfl⟩ rfl (Nat.le_of_ble_eq_true rfl) dX6_rule_95 (fun r2 u1 => ?_)
    exact g_iret C 98 dX6_rule_98
  refine g_tsw C 1 99 5 dX6_rule_1 (by decide) rfl (by decide) ?_ (fun q5 => ?_)
  · skip
    refine g_aload_n C 99 0 dX6_rule_99 rfl ?_
    refine gfX_X6_court C 100 iX6 (List.mem_cons_of_mem _ (List.mem_append_right _ wgL_1_15.1)) dX6_rule_100 ?_
    refine gfX_X0_verdict 0 (by decide) C 103 iX0 (List.mem_cons_of_mem _ (List.mem_append_right _ wgL_18_9.1)) dX6_rule_103 ?_
    refine g_aload_n C 106 0 dX6_rule_106 rfl ?_
    refine gfX_X6_court C 107 iX6 (List.mem_cons_of_mem _ (List.mem_append_right _ wgL_1_15.1)) dX6_rule_107 ?_
    refine gfX_X0_cases 0 (by decide) C 110 iX0 (List.mem_cons_of_mem _ (List.mem_append_right _ wgL_18_5.1)) dX6_rule_110 ?_
    refine g_iconst C 113 2 dX6_rule_113 rfl ?_
    refine g_callSi (st := []) (As := [.ref (ad (10 + 3)), .int (u.1 0), .int 2]) C EX_ok EX_vm 114 3 (tX6_bitsOf F 3 (by decide) (u.1 0) 2 u) rfl gX6_rule_X6_bitsOf rfl rfl rfl (by decide +kernel) ⟨Nat.le_of_ble_eq_true rfl, Nat.le_of_ble_eq_true rfl⟩ rfl (Nat.le_of_ble_eq_true rfl) dX6_rule_114 (fun r4 u3 => ?_)
    exact g_iret C 117 dX6_rule_117
  refine g_tsw C 1 118 6 dX6_rule_1 (by decide) rfl (by decide) ?_ (fun q6 => ?_)
  · skip
    refine g_aload_n C 118 0 dX6_rule_118 rfl ?_
    refine gfX_X6_court C 119 iX6 (List.mem_cons_of_mem _ (List.mem_append_right _ wgL_1_15.1)) dX6_rule_119 ?_
    refine gfX_X0_verdict 0 (by decide) C 122 iX0 (List.mem_cons_of_mem _ (List.mem_append_right _ wgL_18_9.1)) dX6_rule_122 ?_
    refine g_aload_n C 125 0 dX6_rule_125 rfl ?_
    refine gfX_X6_court C 126 iX6 (List.mem_cons_of_mem _ (List.mem_append_right _ wgL_1_15.1)) dX6_rule_126 ?_
    refine gfX_X0_cases 0 (by decide) C 129 iX0 (List.mem_cons_of_mem _ (List.mem_append_right _ wgL_18_5.1)) dX6_rule_129 ?_
    refine g_iconst C 132 3 dX6_rule_132 rfl ?_
    refine g_callSi (st := []) (As := [.ref (ad (10 + 3)), .int (u.1 0), .int 3]) C EX_ok EX_vm 133 3 (tX6_bitsOf F 3 (by decide) (u.1 0) 3 u) rfl gX6_rule_X6_bitsOf rfl rfl rfl (by decide +kernel) ⟨Nat.le_of_ble_eq_true rfl, Nat.le_of_ble_eq_true rfl⟩ rfl (Nat.le_of_ble_eq_true rfl) dX6_rule_133 (fun r6 u5 => ?_)
    exact g_iret C 136 dX6_rule_136
  refine g_tsw C 1 137 7 dX6_rule_1 (by decide) rfl (by decide) ?_ (fun q7 => ?_)
  · skip
    refine g_aload_n C 137 0 dX6_rule_137 rfl ?_
    refine gfX_X6_court C 138 iX6 (List.mem_cons_of_mem _ (List.mem_append_right _ wgL_1_15.1)) dX6_rule_138 ?_
    refine g_aload_n C 141 0 dX6_rule_141 rfl ?_
    refine gfX_X6_court C 142 iX6 (List.mem_cons_of_mem _ (List.mem_append_right _ wgL_1_15.1)) dX6_rule_142 ?_
    refine gfX_X0_length 0 (by decide) C 145 iX0 (List.mem_cons_of_mem _ (List.mem_append_right _ wgL_18_10.1)) dX6_rule_145 ?_
    refine g_callVi (st := []) (As := [.ref (ad (10 + 1))]) C EX_ok EX_vm 148 1 1 (tX0_sumOf F 0 (by decide) 1 (by decide) u) rfl gX6_rule_X0_sumOf rfl rfl rfl (by decide +kernel) ⟨Nat.le_of_ble_eq_true rfl, Nat.le_of_ble_eq_true rfl⟩ (wX_X0 ad cI cZ _ 0 (by decide)) rfl rfl (Nat.le_of_ble_eq_true rfl) dX6_rule_148 (fun r8 u7 => ?_)
    exact g_iret C 151 dX6_rule_151
  refine g_tswD C 1 152 dX6_rule_1 (by have r0 := lv_neT (a := 0) q0 rfl; have r1 := lv_neT (a := 1) q1 rfl; have r2 := lv_neT (a := 2) q2 rfl; have r3 := lv_neT (a := 3) q3 rfl; have r4 := lv_neT (a := 4) q4 rfl; have r5 := lv_neT (a := 5) q5 rfl; have r6 := lv_neT (a := 6) q6 rfl; have r7 := lv_neT (a := 7) q7 rfl; omega) (by decide) ?_
  refine g_iconst C 152 (-1) dX6_rule_152 rfl ?_
  exact g_iret C 153 dX6_rule_153
def pX6_isSide (F : Nat) (p1 : Int32) (u : St) : Option (Int32 × St) :=
  bd (pX6_isIn F (Int32.toInt64 p1) 0 1 u) (fun (r2 : Int32) (u1 : St) => gd (z01 r2) (some (r2, u1)))
set_option maxRecDepth 100000 in
set_option maxHeartbeats 4000000 in
theorem tX6_isSide {l : Launch} {D : va_G} {cI cZ : ClassId} {ad : Nat → Nat} {tBURNS tFLAME_BOUNDS : Nat} {tS : Option Nat} {adK adV : Nat → Nat} (F : Nat) (p1 : Int32) (u : St) : CtI l D [(cI, .int), (cZ, .boolean)] (wX ad cI cZ) (EX tBURNS tFLAME_BOUNDS tS adK adV) yX6_isSide wsX6_isSide ({ frames := 1, cells := 0, slots := 0, locals := 23 } : Room) [.int p1] u (pX6_isSide F p1 u) := by
  refine ctI_of (own := RX6) (cc := cX6_isSide) (n := 1) (ret := (some .boolean)) (by decide) rfl rfl (Nat.le_of_ble_eq_true rfl) (lv := [(0, .int p1)]) rfl (fun C => ?_)
  rw [pX6_isSide]
  refine g_iload_n C 0 0 dX6_isSide_0 rfl ?_
  refine g_i2l C 1 dX6_isSide_1 ?_
  refine g_iconst C 2 0 dX6_isSide_2 rfl ?_
  refine g_iconst C 3 1 dX6_isSide_3 rfl ?_
  refine g_callSi (st := []) (As := [.long (Int32.toInt64 p1), .int 0, .int 1]) C EX_ok EX_vm 4 3 (tX6_isIn F (Int32.toInt64 p1) 0 1 u) rfl gX6_isSide_X6_isIn rfl rfl rfl (by decide +kernel) ⟨Nat.le_of_ble_eq_true rfl, Nat.le_of_ble_eq_true rfl⟩ rfl (Nat.le_of_ble_eq_true rfl) dX6_isSide_4 (fun r2 u1 => ?_)
  exact g_zret C 7 dX6_isSide_7
def pX6_isFlame (F : Nat) (p1 : Int32) (p2 : Int32) (u : St) : Option (Int32 × St) :=
  bd (pX0_hasCase F 0 (Int32.toInt64 p1) u) (fun (r2 : Int32) (u1 : St) => if r2 = 0 then some (0, u1) else bd (pX6_isSide F p2 u1) (fun (r4 : Int32) (u3 : St) => if r4 = 0 then some (0, u3) else some (1, u3)))
set_option maxRecDepth 100000 in
set_option maxHeartbeats 4000000 in
theorem tX6_isFlame {l : Launch} {D : va_G} {cI cZ : ClassId} {ad : Nat → Nat} {tBURNS tFLAME_BOUNDS : Nat} {tS : Option Nat} {adK adV : Nat → Nat} (F : Nat) (p1 : Int32) (p2 : Int32) (u : St) : CtI l D [(cI, .int), (cZ, .boolean)] (wX ad cI cZ) (EX tBURNS tFLAME_BOUNDS tS adK adV) yX6_isFlame wsX6_isFlame ({ frames := 2, cells := 0, slots := 0, locals := 45 } : Room) [.ref (ad 0), .int p1, .int p2] u (pX6_isFlame F p1 p2 u) := by
  refine ctI_of (own := RX6) (cc := cX6_isFlame) (n := 3) (ret := (some .boolean)) (by decide) rfl rfl (Nat.le_of_ble_eq_true rfl) (lv := [(0, .ref (ad 0)), (1, .int p1), (2, .int p2)]) rfl (fun C => ?_)
  have iX6 : ∀ w ∈ wsX60, w ∈ wsX6_isFlame := fun w h => List.mem_cons_of_mem _ (List.mem_append_right _ (inlX6 w h))
  rw [pX6_isFlame]
  refine g_aload_n C 0 0 dX6_isFlame_0 rfl ?_
  refine gfX_X6_court C 1 iX6 (List.mem_cons_of_mem _ (List.mem_append_right _ wgL_1_15.1)) dX6_isFlame_1 ?_
  refine g_iload_n C 4 1 dX6_isFlame_4 rfl ?_
  refine g_i2l C 5 dX6_isFlame_5 ?_
  refine g_callVi (st := []) (As := [.long (Int32.toInt64 p1)]) C EX_ok EX_vm 6 1 1 (tX0_hasCase F 0 (by decide) (Int32.toInt64 p1) u) rfl gX6_isFlame_X0_hasCase rfl rfl rfl (by decide +kernel) ⟨Nat.le_of_ble_eq_true rfl, Nat.le_of_ble_eq_true rfl⟩ (wX_X0 ad cI cZ _ 0 (by decide)) rfl rfl (Nat.le_of_ble_eq_true rfl) dX6_isFlame_6 (fun r2 u1 => ?_)
  refine g_if_eq C 9 23 dX6_isFlame_9 (by decide) ?_ ?_
  · skip
    refine g_iconst C 23 0 dX6_isFlame_23 rfl ?_
    exact g_nret C 24 rfl dX6_isFlame_24
  · skip
    refine g_iload_n C 12 2 dX6_isFlame_12 rfl ?_
    refine g_callSi (st := []) (As := [.int p2]) C EX_ok EX_vm 13 1 (tX6_isSide F p2 u1) rfl gX6_isFlame_X6_isSide rfl rfl rfl (by decide +kernel) ⟨Nat.le_of_ble_eq_true rfl, Nat.le_of_ble_eq_true rfl⟩ rfl (Nat.le_of_ble_eq_true rfl) dX6_isFlame_13 (fun r4 u3 => ?_)
    refine g_if_eq C 16 23 dX6_isFlame_16 (by decide) ?_ ?_
    · skip
      refine g_iconst C 23 0 dX6_isFlame_23 rfl ?_
      exact g_nret C 24 rfl dX6_isFlame_24
    · skip
      refine g_iconst C 19 1 dX6_isFlame_19 rfl ?_
      refine g_goto C 20 24 dX6_isFlame_20 (by decide) ?_
      exact g_nret C 24 rfl dX6_isFlame_24
def pX6_flame (F : Nat) (p1 : Int32) (p2 : Int32) (p3 : Int32) (u : St) : Option (Int32 × St) :=
  bd (pX6_isFlame F p1 p2 u) (fun (r2 : Int32) (u1 : St) => if r2 = 0 then some ((-1), u1) else vl ((2 * p1) + p2) (fun v3 => if p3 = 0 then gd (inb v3 8) (some ((u1.2 0 (Int32.toNatClampNeg v3)), u1)) else if p3 = 1 then gd (inb v3 8) (some ((u1.2 1 (Int32.toNatClampNeg v3)), u1)) else if p3 = 2 then gd (inb v3 8) (some ((u1.2 2 (Int32.toNatClampNeg v3)), u1)) else if p3 = 3 then gd (inb v3 8) (gd (inb (u1.2 0 (Int32.toNatClampNeg v3)) 4) (some ((tabBURNS (Int32.toNatClampNeg (u1.2 0 (Int32.toNatClampNeg v3)))), u1))) else some ((-1), u1)))
set_option maxRecDepth 100000 in
set_option maxHeartbeats 4000000 in
theorem tX6_flame {l : Launch} {D : va_G} {cI cZ : ClassId} {ad : Nat → Nat} {tBURNS tFLAME_BOUNDS : Nat} {tS : Option Nat} {adK adV : Nat → Nat} (F : Nat) (p1 : Int32) (p2 : Int32) (p3 : Int32) (u : St) : CtI l D [(cI, .int), (cZ, .boolean)] (wX ad cI cZ) (EX tBURNS tFLAME_BOUNDS tS adK adV) yX6_flame wsX6_flame ({ frames := 3, cells := 0, slots := 0, locals := 67 } : Room) [.ref (ad 0), .int p1, .int p2, .int p3] u (pX6_flame F p1 p2 p3 u) := by
  refine ctI_of (own := RX6) (cc := cX6_flame) (n := 5) (ret := (some .int)) (by decide) rfl rfl (Nat.le_of_ble_eq_true rfl) (lv := [(0, .ref (ad 0)), (1, .int p1), (2, .int p2), (3, .int p3)]) rfl (fun C => ?_)
  have iX0 : ∀ w ∈ wsX00, w ∈ wsX6_flame := fun w h => List.mem_cons_of_mem _ (List.mem_append_right _ (inlX0 w h))
  have iX6 : ∀ w ∈ wsX60, w ∈ wsX6_flame := fun w h => List.mem_cons_of_mem _ (List.mem_append_right _ (inlX6 w h))
  rw [pX6_flame]
  refine g_aload_n C 0 0 dX6_flame_0 rfl ?_
  refine g_iload_n C 1 1 dX6_flame_1 rfl ?_
  refine g_iload_n C 2 2 dX6_flame_2 rfl ?_
  refine g_callVi (st := []) (As := [.int p1, .int p2]) C EX_ok EX_vm 3 0 2 (tX6_isFlame F p1 p2 u) rfl gX6_flame_X6_isFlame rfl rfl rfl (by decide +kernel) ⟨Nat.le_of_ble_eq_true rfl, Nat.le_of_ble_eq_true rfl⟩ rfl rfl rfl (Nat.le_of_ble_eq_true rfl) dX6_flame_3 (fun r2 u1 => ?_)
  refine g_if_ne C 6 11 dX6_flame_6 (by decide) ?_ ?_
  · skip
    refine g_iconst C 11 2 dX6_flame_11 rfl ?_
    refine g_iload_n C 12 1 dX6_flame_12 rfl ?_
    refine g_imul C 13 dX6_flame_13 ?_
    refine g_iload_n C 14 2 dX6_flame_14 rfl ?_
    refine g_iadd C 15 dX6_flame_15 ?_
    refine g_istoreV C 16 (fun v3 => [(4, .int v3), (0, .ref (ad 0)), (1, .int p1), (2, .int p2), (3, .int p3)]) dX6_flame_16 (by decide) (fun _ => rfl) (fun v3 => ?_)
    refine g_iload_n C 18 4 dX6_flame_18 rfl ?_
    refine g_tsw C 19 48 0 dX6_flame_19 (by decide) rfl (by decide) ?_ (fun q0 => ?_)
    · skip
      refine g_aload_n C 48 1 dX6_flame_48 rfl ?_
      refine gfX_X6_court C 49 iX6 (List.mem_cons_of_mem _ (List.mem_append_right _ wgL_1_15.1)) dX6_flame_49 ?_
      refine gfX_X0_kind 0 (by decide) C 52 iX0 (List.mem_cons_of_mem _ (List.mem_append_right _ wgL_19_10.1)) dX6_flame_52 ?_
      refine g_iload C 55 0 dX6_flame_55 rfl ?_
      refine g_iald C 57 (10 + 0) 0 (wX_arr 0 (by decide)) rfl dX6_flame_57 ?_
      exact g_iret C 58 dX6_flame_58
    refine g_tsw C 19 59 1 dX6_flame_19 (by decide) rfl (by decide) ?_ (fun q1 => ?_)
    · skip
      refine g_aload_n C 59 1 dX6_flame_59 rfl ?_
      refine gfX_X6_court C 60 iX6 (List.mem_cons_of_mem _ (List.mem_append_right _ wgL_1_15.1)) dX6_flame_60 ?_
      refine gfX_X0_length 0 (by decide) C 63 iX0 (List.mem_cons_of_mem _ (List.mem_append_right _ wgL_18_10.1)) dX6_flame_63 ?_
      refine g_iload C 66 0 dX6_flame_66 rfl ?_
      refine g_iald C 68 (10 + 1) 0 (wX_arr 1 (by decide)) rfl dX6_flame_68 ?_
      exact g_iret C 69 dX6_flame_69
    refine g_tsw C 19 70 2 dX6_flame_19 (by decide) rfl (by decide) ?_ (fun q2 => ?_)
    · skip
      refine g_aload_n C 70 1 dX6_flame_70 rfl ?_
      refine gfX_X6_court C 71 iX6 (List.mem_cons_of_mem _ (List.mem_append_right _ wgL_1_15.1)) dX6_flame_71 ?_
      refine gfX_X0_guard 0 (by decide) C 74 iX0 (List.mem_cons_of_mem _ (List.mem_append_right _ wgL_19_11.1)) dX6_flame_74 ?_
      refine g_iload C 77 0 dX6_flame_77 rfl ?_
      refine g_iald C 79 (10 + 2) 0 (wX_arr 2 (by decide)) rfl dX6_flame_79 ?_
      exact g_iret C 80 dX6_flame_80
    refine g_tsw C 19 81 3 dX6_flame_19 (by decide) rfl (by decide) ?_ (fun q3 => ?_)
    · skip
      refine g_gets C 81 (EX_zBURNS C.2.2.2.2.2.2.2.2.1) (by decide +kernel) dX6_flame_81 ?_
      refine g_aload_n C 84 1 dX6_flame_84 rfl ?_
      refine gfX_X6_court C 85 iX6 (List.mem_cons_of_mem _ (List.mem_append_right _ wgL_1_15.1)) dX6_flame_85 ?_
      refine gfX_X0_kind 0 (by decide) C 88 iX0 (List.mem_cons_of_mem _ (List.mem_append_right _ wgL_19_10.1)) dX6_flame_88 ?_
      refine g_iload C 91 0 dX6_flame_91 rfl ?_
      refine g_iald C 93 (10 + 0) 0 (wX_arr 0 (by decide)) rfl dX6_flame_93 ?_
      refine g_ti C 94 (EX_tBURNS C.2.2.2.2.2.2.2.2.1) dX6_flame_94 ?_
      exact g_iret C 95 dX6_flame_95
    refine g_tswD C 19 96 dX6_flame_19 (by have r0 := lv_neT (a := 0) q0 rfl; have r1 := lv_neT (a := 1) q1 rfl; have r2 := lv_neT (a := 2) q2 rfl; have r3 := lv_neT (a := 3) q3 rfl; omega) (by decide) ?_
    refine g_iconst C 96 (-1) dX6_flame_96 rfl ?_
    exact g_iret C 97 dX6_flame_97
  · skip
    refine g_iconst C 9 (-1) dX6_flame_9 rfl ?_
    exact g_iret C 10 dX6_flame_10
def pX6_suit (F : Nat) (p1 : Int32) (p2 : Int32) (u : St) : Option (Int32 × St) :=
  bd (pX0_hasCase F 0 (Int32.toInt64 p1) u) (fun (r2 : Int32) (u1 : St) => if r2 = 0 then some ((-1), u1) else if p2 = 0 then gd (inb p1 4) (some ((u1.2 3 (Int32.toNatClampNeg p1)), u1)) else if p2 = 1 then gd (inb p1 4) (some ((u1.2 4 (Int32.toNatClampNeg p1)), u1)) else if p2 = 2 then gd (inb p1 4) (some ((u1.2 5 (Int32.toNatClampNeg p1)), u1)) else if p2 = 3 then gd (inb p1 4) (some ((u1.2 6 (Int32.toNatClampNeg p1)), u1)) else some ((-1), u1))
set_option maxRecDepth 100000 in
set_option maxHeartbeats 4000000 in
theorem tX6_suit {l : Launch} {D : va_G} {cI cZ : ClassId} {ad : Nat → Nat} {tBURNS tFLAME_BOUNDS : Nat} {tS : Option Nat} {adK adV : Nat → Nat} (F : Nat) (p1 : Int32) (p2 : Int32) (u : St) : CtI l D [(cI, .int), (cZ, .boolean)] (wX ad cI cZ) (EX tBURNS tFLAME_BOUNDS tS adK adV) yX6_suit wsX6_suit ({ frames := 2, cells := 0, slots := 0, locals := 45 } : Room) [.ref (ad 0), .int p1, .int p2] u (pX6_suit F p1 p2 u) := by
  refine ctI_of (own := RX6) (cc := cX6_suit) (n := 3) (ret := (some .int)) (by decide) rfl rfl (Nat.le_of_ble_eq_true rfl) (lv := [(0, .ref (ad 0)), (1, .int p1), (2, .int p2)]) rfl (fun C => ?_)
  have iX0 : ∀ w ∈ wsX00, w ∈ wsX6_suit := fun w h => List.mem_cons_of_mem _ (List.mem_append_right _ (inlX0 w h))
  have iX6 : ∀ w ∈ wsX60, w ∈ wsX6_suit := fun w h => List.mem_cons_of_mem _ (List.mem_append_right _ (inlX6 w h))
  rw [pX6_suit]
  refine g_aload_n C 0 0 dX6_suit_0 rfl ?_
  refine gfX_X6_court C 1 iX6 (List.mem_cons_of_mem _ (List.mem_append_right _ wgL_1_15.1)) dX6_suit_1 ?_
  refine g_iload_n C 4 1 dX6_suit_4 rfl ?_
  refine g_i2l C 5 dX6_suit_5 ?_
  refine g_callVi (st := []) (As := [.long (Int32.toInt64 p1)]) C EX_ok EX_vm 6 1 1 (tX0_hasCase F 0 (by decide) (Int32.toInt64 p1) u) rfl gX6_suit_X0_hasCase rfl rfl rfl (by decide +kernel) ⟨Nat.le_of_ble_eq_true rfl, Nat.le_of_ble_eq_true rfl⟩ (wX_X0 ad cI cZ _ 0 (by decide)) rfl rfl (Nat.le_of_ble_eq_true rfl) dX6_suit_6 (fun r2 u1 => ?_)
  refine g_if_ne C 9 14 dX6_suit_9 (by decide) ?_ ?_
  · skip
    refine g_iload_n C 14 2 dX6_suit_14 rfl ?_
    refine g_tsw C 15 44 0 dX6_suit_15 (by decide) rfl (by decide) ?_ (fun q0 => ?_)
    · skip
      refine g_aload_n C 44 0 dX6_suit_44 rfl ?_
      refine gfX_X6_court C 45 iX6 (List.mem_cons_of_mem _ (List.mem_append_right _ wgL_1_15.1)) dX6_suit_45 ?_
      refine gfX_X0_verdict 0 (by decide) C 48 iX0 (List.mem_cons_of_mem _ (List.mem_append_right _ wgL_18_9.1)) dX6_suit_48 ?_
      refine g_iload_n C 51 1 dX6_suit_51 rfl ?_
      refine g_iald C 52 (10 + 3) 0 (wX_arr 3 (by decide)) rfl dX6_suit_52 ?_
      exact g_iret C 53 dX6_suit_53
    refine g_tsw C 15 54 1 dX6_suit_15 (by decide) rfl (by decide) ?_ (fun q1 => ?_)
    · skip
      refine g_aload_n C 54 0 dX6_suit_54 rfl ?_
      refine gfX_X6_court C 55 iX6 (List.mem_cons_of_mem _ (List.mem_append_right _ wgL_1_15.1)) dX6_suit_55 ?_
      refine gfX_X0_appealed 0 (by decide) C 58 iX0 (List.mem_cons_of_mem _ (List.mem_append_right _ wgL_20_12.1)) dX6_suit_58 ?_
      refine g_iload_n C 61 1 dX6_suit_61 rfl ?_
      refine g_iald C 62 (10 + 4) 0 (wX_arr 4 (by decide)) rfl dX6_suit_62 ?_
      exact g_iret C 63 dX6_suit_63
    refine g_tsw C 15 64 2 dX6_suit_15 (by decide) rfl (by decide) ?_ (fun q2 => ?_)
    · skip
      refine g_aload_n C 64 0 dX6_suit_64 rfl ?_
      refine gfX_X6_court C 65 iX6 (List.mem_cons_of_mem _ (List.mem_append_right _ wgL_1_15.1)) dX6_suit_65 ?_
      refine gfX_X0_endMinute 0 (by decide) C 68 iX0 (List.mem_cons_of_mem _ (List.mem_append_right _ wgL_20_13.1)) dX6_suit_68 ?_
      refine g_iload_n C 71 1 dX6_suit_71 rfl ?_
      refine g_iald C 72 (10 + 5) 0 (wX_arr 5 (by decide)) rfl dX6_suit_72 ?_
      exact g_iret C 73 dX6_suit_73
    refine g_tsw C 15 74 3 dX6_suit_15 (by decide) rfl (by decide) ?_ (fun q3 => ?_)
    · skip
      refine g_aload_n C 74 0 dX6_suit_74 rfl ?_
      refine gfX_X6_court C 75 iX6 (List.mem_cons_of_mem _ (List.mem_append_right _ wgL_1_15.1)) dX6_suit_75 ?_
      refine gfX_X0_endJudge 0 (by decide) C 78 iX0 (List.mem_cons_of_mem _ (List.mem_append_right _ wgL_20_14.1)) dX6_suit_78 ?_
      refine g_iload_n C 81 1 dX6_suit_81 rfl ?_
      refine g_iald C 82 (10 + 6) 0 (wX_arr 6 (by decide)) rfl dX6_suit_82 ?_
      exact g_iret C 83 dX6_suit_83
    refine g_tswD C 15 84 dX6_suit_15 (by have r0 := lv_neT (a := 0) q0 rfl; have r1 := lv_neT (a := 1) q1 rfl; have r2 := lv_neT (a := 2) q2 rfl; have r3 := lv_neT (a := 3) q3 rfl; omega) (by decide) ?_
    refine g_iconst C 84 (-1) dX6_suit_84 rfl ?_
    exact g_iret C 85 dX6_suit_85
  · skip
    refine g_iconst C 12 (-1) dX6_suit_12 rfl ?_
    exact g_iret C 13 dX6_suit_13
def pX6_judge (F : Nat) (p1 : Int32) (p2 : Int32) (u : St) : Option (Int32 × St) :=
  bd (pX0_hasJudge F 0 p1 u) (fun (r2 : Int32) (u1 : St) => if r2 = 0 then some ((-1), u1) else bd (pX6_isIn F (Int32.toInt64 p2) 0 1 u1) (fun (r4 : Int32) (u3 : St) => if r4 = 0 then some ((-1), u3) else if p2 = 0 then gd (inb p1 3) (some ((u3.2 7 (Int32.toNatClampNeg p1)), u3)) else gd (inb p1 3) (some ((u3.2 8 (Int32.toNatClampNeg p1)), u3))))
set_option maxRecDepth 100000 in
set_option maxHeartbeats 4000000 in
theorem tX6_judge {l : Launch} {D : va_G} {cI cZ : ClassId} {ad : Nat → Nat} {tBURNS tFLAME_BOUNDS : Nat} {tS : Option Nat} {adK adV : Nat → Nat} (F : Nat) (p1 : Int32) (p2 : Int32) (u : St) : CtI l D [(cI, .int), (cZ, .boolean)] (wX ad cI cZ) (EX tBURNS tFLAME_BOUNDS tS adK adV) yX6_judge wsX6_judge ({ frames := 2, cells := 0, slots := 0, locals := 44 } : Room) [.ref (ad 0), .int p1, .int p2] u (pX6_judge F p1 p2 u) := by
  refine ctI_of (own := RX6) (cc := cX6_judge) (n := 3) (ret := (some .int)) (by decide) rfl rfl (Nat.le_of_ble_eq_true rfl) (lv := [(0, .ref (ad 0)), (1, .int p1), (2, .int p2)]) rfl (fun C => ?_)
  have iX0 : ∀ w ∈ wsX00, w ∈ wsX6_judge := fun w h => List.mem_cons_of_mem _ (List.mem_append_right _ (inlX0 w h))
  have iX6 : ∀ w ∈ wsX60, w ∈ wsX6_judge := fun w h => List.mem_cons_of_mem _ (List.mem_append_right _ (inlX6 w h))
  rw [pX6_judge]
  refine g_aload_n C 0 0 dX6_judge_0 rfl ?_
  refine gfX_X6_court C 1 iX6 (List.mem_cons_of_mem _ (List.mem_append_right _ wgL_1_15.1)) dX6_judge_1 ?_
  refine g_iload_n C 4 1 dX6_judge_4 rfl ?_
  refine g_callVi (st := []) (As := [.int p1]) C EX_ok EX_vm 5 1 1 (tX0_hasJudge F 0 (by decide) p1 u) rfl gX6_judge_X0_hasJudge rfl rfl rfl (by decide +kernel) ⟨Nat.le_of_ble_eq_true rfl, Nat.le_of_ble_eq_true rfl⟩ (wX_X0 ad cI cZ _ 0 (by decide)) rfl rfl (Nat.le_of_ble_eq_true rfl) dX6_judge_5 (fun r2 u1 => ?_)
  refine g_if_eq C 8 21 dX6_judge_8 (by decide) ?_ ?_
  · skip
    refine g_iconst C 21 (-1) dX6_judge_21 rfl ?_
    exact g_iret C 22 dX6_judge_22
  · skip
    refine g_iload_n C 11 2 dX6_judge_11 rfl ?_
    refine g_i2l C 12 dX6_judge_12 ?_
    refine g_iconst C 13 0 dX6_judge_13 rfl ?_
    refine g_iconst C 14 1 dX6_judge_14 rfl ?_
    refine g_callSi (st := []) (As := [.long (Int32.toInt64 p2), .int 0, .int 1]) C EX_ok EX_vm 15 3 (tX6_isIn F (Int32.toInt64 p2) 0 1 u1) rfl gX6_judge_X6_isIn rfl rfl rfl (by decide +kernel) ⟨Nat.le_of_ble_eq_true rfl, Nat.le_of_ble_eq_true rfl⟩ rfl (Nat.le_of_ble_eq_true rfl) dX6_judge_15 (fun r4 u3 => ?_)
    refine g_if_ne C 18 23 dX6_judge_18 (by decide) ?_ ?_
    · skip
      refine g_iload_n C 23 2 dX6_judge_23 rfl ?_
      refine g_if_ne C 24 39 dX6_judge_24 (by decide) ?_ ?_
      · skip
        refine g_aload_n C 39 0 dX6_judge_39 rfl ?_
        refine gfX_X6_court C 40 iX6 (List.mem_cons_of_mem _ (List.mem_append_right _ wgL_1_15.1)) dX6_judge_40 ?_
        refine gfX_X0_slow 0 (by decide) C 43 iX0 (List.mem_cons_of_mem _ (List.mem_append_right _ wgL_21_0.1)) dX6_judge_43 ?_
        refine g_iload_n C 46 1 dX6_judge_46 rfl ?_
        refine g_iald C 47 (10 + 8) 0 (wX_arr 8 (by decide)) rfl dX6_judge_47 ?_
        exact g_iret C 48 dX6_judge_48
      · skip
        refine g_aload_n C 27 0 dX6_judge_27 rfl ?_
        refine gfX_X6_court C 28 iX6 (List.mem_cons_of_mem _ (List.mem_append_right _ wgL_1_15.1)) dX6_judge_28 ?_
        refine gfX_X0_habit 0 (by decide) C 31 iX0 (List.mem_cons_of_mem _ (List.mem_append_right _ wgL_20_23.1)) dX6_judge_31 ?_
        refine g_iload_n C 34 1 dX6_judge_34 rfl ?_
        refine g_iald C 35 (10 + 7) 0 (wX_arr 7 (by decide)) rfl dX6_judge_35 ?_
        refine g_goto C 36 48 dX6_judge_36 (by decide) ?_
        exact g_iret C 48 dX6_judge_48
    · skip
      refine g_iconst C 21 (-1) dX6_judge_21 rfl ?_
      exact g_iret C 22 dX6_judge_22
def pX6_draught (F : Nat) (p1 : Int32) (p2 : Int32) (u : St) : Option (Int32 × St) :=
  bd (pX6_isIn F (Int32.toInt64 p1) 0 ((u.1 2) - 1) u) (fun (r2 : Int32) (u1 : St) => if r2 = 0 then some ((-1), u1) else bd (pX6_isIn F (Int32.toInt64 p2) 0 1 u1) (fun (r4 : Int32) (u3 : St) => if r4 = 0 then some ((-1), u3) else if p2 = 0 then gd (inb p1 4) (some ((u3.2 9 (Int32.toNatClampNeg p1)), u3)) else gd (inb p1 4) (some ((u3.2 10 (Int32.toNatClampNeg p1)), u3))))
set_option maxRecDepth 100000 in
set_option maxHeartbeats 4000000 in
theorem tX6_draught {l : Launch} {D : va_G} {cI cZ : ClassId} {ad : Nat → Nat} {tBURNS tFLAME_BOUNDS : Nat} {tS : Option Nat} {adK adV : Nat → Nat} (F : Nat) (p1 : Int32) (p2 : Int32) (u : St) : CtI l D [(cI, .int), (cZ, .boolean)] (wX ad cI cZ) (EX tBURNS tFLAME_BOUNDS tS adK adV) yX6_draught wsX6_draught ({ frames := 1, cells := 0, slots := 0, locals := 23 } : Room) [.ref (ad 0), .int p1, .int p2] u (pX6_draught F p1 p2 u) := by
  refine ctI_of (own := RX6) (cc := cX6_draught) (n := 3) (ret := (some .int)) (by decide) rfl rfl (Nat.le_of_ble_eq_true rfl) (lv := [(0, .ref (ad 0)), (1, .int p1), (2, .int p2)]) rfl (fun C => ?_)
  have iX0 : ∀ w ∈ wsX00, w ∈ wsX6_draught := fun w h => List.mem_cons_of_mem _ (List.mem_append_right _ (inlX0 w h))
  have iX6 : ∀ w ∈ wsX60, w ∈ wsX6_draught := fun w h => List.mem_cons_of_mem _ (List.mem_append_right _ (inlX6 w h))
  rw [pX6_draught]
  refine g_iload_n C 0 1 dX6_draught_0 rfl ?_
  refine g_i2l C 1 dX6_draught_1 ?_
  refine g_iconst C 2 0 dX6_draught_2 rfl ?_
  refine g_aload_n C 3 0 dX6_draught_3 rfl ?_
  refine gfX_X6_court C 4 iX6 (List.mem_cons_of_mem _ (List.mem_append_right _ wgL_1_15.1)) dX6_draught_4 ?_
  refine gfX_X0_draughts 0 (by decide) C 7 iX0 (List.mem_cons_of_mem _ (List.mem_append_right _ wgL_18_7.1)) dX6_draught_7 ?_
  refine g_iconst C 10 1 dX6_draught_10 rfl ?_
  refine g_isub C 11 dX6_draught_11 ?_
  refine g_callSi (st := []) (As := [.long (Int32.toInt64 p1), .int 0, .int ((u.1 2) - 1)]) C EX_ok EX_vm 12 3 (tX6_isIn F (Int32.toInt64 p1) 0 ((u.1 2) - 1) u) rfl gX6_draught_X6_isIn rfl rfl rfl (by decide +kernel) ⟨Nat.le_of_ble_eq_true rfl, Nat.le_of_ble_eq_true rfl⟩ rfl (Nat.le_of_ble_eq_true rfl) dX6_draught_12 (fun r2 u1 => ?_)
  refine g_if_eq C 15 28 dX6_draught_15 (by decide) ?_ ?_
  · skip
    refine g_iconst C 28 (-1) dX6_draught_28 rfl ?_
    exact g_iret C 29 dX6_draught_29
  · skip
    refine g_iload_n C 18 2 dX6_draught_18 rfl ?_
    refine g_i2l C 19 dX6_draught_19 ?_
    refine g_iconst C 20 0 dX6_draught_20 rfl ?_
    refine g_iconst C 21 1 dX6_draught_21 rfl ?_
    refine g_callSi (st := []) (As := [.long (Int32.toInt64 p2), .int 0, .int 1]) C EX_ok EX_vm 22 3 (tX6_isIn F (Int32.toInt64 p2) 0 1 u1) rfl gX6_draught_X6_isIn rfl rfl rfl (by decide +kernel) ⟨Nat.le_of_ble_eq_true rfl, Nat.le_of_ble_eq_true rfl⟩ rfl (Nat.le_of_ble_eq_true rfl) dX6_draught_22 (fun r4 u3 => ?_)
    refine g_if_ne C 25 30 dX6_draught_25 (by decide) ?_ ?_
    · skip
      refine g_iload_n C 30 2 dX6_draught_30 rfl ?_
      refine g_if_ne C 31 46 dX6_draught_31 (by decide) ?_ ?_
      · skip
        refine g_aload_n C 46 0 dX6_draught_46 rfl ?_
        refine gfX_X6_court C 47 iX6 (List.mem_cons_of_mem _ (List.mem_append_right _ wgL_1_15.1)) dX6_draught_47 ?_
        refine gfX_X0_strength 0 (by decide) C 50 iX0 (List.mem_cons_of_mem _ (List.mem_append_right _ wgL_21_15.1)) dX6_draught_50 ?_
        refine g_iload_n C 53 1 dX6_draught_53 rfl ?_
        refine g_iald C 54 (10 + 10) 0 (wX_arr 10 (by decide)) rfl dX6_draught_54 ?_
        exact g_iret C 55 dX6_draught_55
      · skip
        refine g_aload_n C 34 0 dX6_draught_34 rfl ?_
        refine gfX_X6_court C 35 iX6 (List.mem_cons_of_mem _ (List.mem_append_right _ wgL_1_15.1)) dX6_draught_35 ?_
        refine gfX_X0_minute 0 (by decide) C 38 iX0 (List.mem_cons_of_mem _ (List.mem_append_right _ wgL_21_14.1)) dX6_draught_38 ?_
        refine g_iload_n C 41 1 dX6_draught_41 rfl ?_
        refine g_iald C 42 (10 + 9) 0 (wX_arr 9 (by decide)) rfl dX6_draught_42 ?_
        refine g_goto C 43 55 dX6_draught_43 (by decide) ?_
        exact g_iret C 55 dX6_draught_55
    · skip
      refine g_iconst C 28 (-1) dX6_draught_28 rfl ?_
      exact g_iret C 29 dX6_draught_29
def pX6_docket (F : Nat) (p1 : Int32) (p2 : Int32) (u : St) : Option (Int32 × St) :=
  bd (pX6_isIn F (Int32.toInt64 p1) 0 ((u.1 3) - 1) u) (fun (r2 : Int32) (u1 : St) => if r2 = 0 then some ((-1), u1) else bd (pX6_isIn F (Int32.toInt64 p2) 0 1 u1) (fun (r4 : Int32) (u3 : St) => if r4 = 0 then some ((-1), u3) else if p2 = 0 then gd (inb p1 6) (some ((u3.2 11 (Int32.toNatClampNeg p1)), u3)) else gd (inb p1 6) (some ((u3.2 12 (Int32.toNatClampNeg p1)), u3))))
set_option maxRecDepth 100000 in
set_option maxHeartbeats 4000000 in
theorem tX6_docket {l : Launch} {D : va_G} {cI cZ : ClassId} {ad : Nat → Nat} {tBURNS tFLAME_BOUNDS : Nat} {tS : Option Nat} {adK adV : Nat → Nat} (F : Nat) (p1 : Int32) (p2 : Int32) (u : St) : CtI l D [(cI, .int), (cZ, .boolean)] (wX ad cI cZ) (EX tBURNS tFLAME_BOUNDS tS adK adV) yX6_docket wsX6_docket ({ frames := 1, cells := 0, slots := 0, locals := 23 } : Room) [.ref (ad 0), .int p1, .int p2] u (pX6_docket F p1 p2 u) := by
  refine ctI_of (own := RX6) (cc := cX6_docket) (n := 3) (ret := (some .int)) (by decide) rfl rfl (Nat.le_of_ble_eq_true rfl) (lv := [(0, .ref (ad 0)), (1, .int p1), (2, .int p2)]) rfl (fun C => ?_)
  have iX0 : ∀ w ∈ wsX00, w ∈ wsX6_docket := fun w h => List.mem_cons_of_mem _ (List.mem_append_right _ (inlX0 w h))
  have iX6 : ∀ w ∈ wsX60, w ∈ wsX6_docket := fun w h => List.mem_cons_of_mem _ (List.mem_append_right _ (inlX6 w h))
  rw [pX6_docket]
  refine g_iload_n C 0 1 dX6_docket_0 rfl ?_
  refine g_i2l C 1 dX6_docket_1 ?_
  refine g_iconst C 2 0 dX6_docket_2 rfl ?_
  refine g_aload_n C 3 0 dX6_docket_3 rfl ?_
  refine gfX_X6_court C 4 iX6 (List.mem_cons_of_mem _ (List.mem_append_right _ wgL_1_15.1)) dX6_docket_4 ?_
  refine gfX_X0_hearings 0 (by decide) C 7 iX0 (List.mem_cons_of_mem _ (List.mem_append_right _ wgL_18_8.1)) dX6_docket_7 ?_
  refine g_iconst C 10 1 dX6_docket_10 rfl ?_
  refine g_isub C 11 dX6_docket_11 ?_
  refine g_callSi (st := []) (As := [.long (Int32.toInt64 p1), .int 0, .int ((u.1 3) - 1)]) C EX_ok EX_vm 12 3 (tX6_isIn F (Int32.toInt64 p1) 0 ((u.1 3) - 1) u) rfl gX6_docket_X6_isIn rfl rfl rfl (by decide +kernel) ⟨Nat.le_of_ble_eq_true rfl, Nat.le_of_ble_eq_true rfl⟩ rfl (Nat.le_of_ble_eq_true rfl) dX6_docket_12 (fun r2 u1 => ?_)
  refine g_if_eq C 15 28 dX6_docket_15 (by decide) ?_ ?_
  · skip
    refine g_iconst C 28 (-1) dX6_docket_28 rfl ?_
    exact g_iret C 29 dX6_docket_29
  · skip
    refine g_iload_n C 18 2 dX6_docket_18 rfl ?_
    refine g_i2l C 19 dX6_docket_19 ?_
    refine g_iconst C 20 0 dX6_docket_20 rfl ?_
    refine g_iconst C 21 1 dX6_docket_21 rfl ?_
    refine g_callSi (st := []) (As := [.long (Int32.toInt64 p2), .int 0, .int 1]) C EX_ok EX_vm 22 3 (tX6_isIn F (Int32.toInt64 p2) 0 1 u1) rfl gX6_docket_X6_isIn rfl rfl rfl (by decide +kernel) ⟨Nat.le_of_ble_eq_true rfl, Nat.le_of_ble_eq_true rfl⟩ rfl (Nat.le_of_ble_eq_true rfl) dX6_docket_22 (fun r4 u3 => ?_)
    refine g_if_ne C 25 30 dX6_docket_25 (by decide) ?_ ?_
    · skip
      refine g_iload_n C 30 2 dX6_docket_30 rfl ?_
      refine g_if_ne C 31 46 dX6_docket_31 (by decide) ?_ ?_
      · skip
        refine g_aload_n C 46 0 dX6_docket_46 rfl ?_
        refine gfX_X6_court C 47 iX6 (List.mem_cons_of_mem _ (List.mem_append_right _ wgL_1_15.1)) dX6_docket_47 ?_
        refine gfX_X0_docketJudge 0 (by decide) C 50 iX0 (List.mem_cons_of_mem _ (List.mem_append_right _ wgL_22_1.1)) dX6_docket_50 ?_
        refine g_iload_n C 53 1 dX6_docket_53 rfl ?_
        refine g_iald C 54 (10 + 12) 0 (wX_arr 12 (by decide)) rfl dX6_docket_54 ?_
        exact g_iret C 55 dX6_docket_55
      · skip
        refine g_aload_n C 34 0 dX6_docket_34 rfl ?_
        refine gfX_X6_court C 35 iX6 (List.mem_cons_of_mem _ (List.mem_append_right _ wgL_1_15.1)) dX6_docket_35 ?_
        refine gfX_X0_docketCase 0 (by decide) C 38 iX0 (List.mem_cons_of_mem _ (List.mem_append_right _ wgL_22_0.1)) dX6_docket_38 ?_
        refine g_iload_n C 41 1 dX6_docket_41 rfl ?_
        refine g_iald C 42 (10 + 11) 0 (wX_arr 11 (by decide)) rfl dX6_docket_42 ?_
        refine g_goto C 43 55 dX6_docket_43 (by decide) ?_
        exact g_iret C 55 dX6_docket_55
    · skip
      refine g_iconst C 28 (-1) dX6_docket_28 rfl ?_
      exact g_iret C 29 dX6_docket_29
def pX6_exchange (F : Nat) (p1 : Nat) (p2 : Int32) (p3 : Int32) (u : St) : Option (Int32 × St) :=
  gd (inb p2 (lenX p1)) (vl (u.2 p1 (Int32.toNatClampNeg p2)) (fun v1 => gd (inb p2 (lenX p1)) (vl (sta u p1 p2 p3) (fun (u2 : St) => some (v1, u2)))))
set_option maxRecDepth 100000 in
set_option maxHeartbeats 4000000 in
theorem tX6_exchange {l : Launch} {D : va_G} {cI cZ : ClassId} {ad : Nat → Nat} {tBURNS tFLAME_BOUNDS : Nat} {tS : Option Nat} {adK adV : Nat → Nat} (F : Nat) (p1 : Nat) (hp1 : p1 < 66) (p2 : Int32) (p3 : Int32) (u : St) : CtI l D [(cI, .int), (cZ, .boolean)] (wX ad cI cZ) (EX tBURNS tFLAME_BOUNDS tS adK adV) yX6_exchange wsX6_exchange ({ frames := 0, cells := 0, slots := 0, locals := 0 } : Room) [.ref (ad (10 + p1)), .int p2, .int p3] u (pX6_exchange F p1 p2 p3 u) := by
  refine ctI_of (own := RX6) (cc := cX6_exchange) (n := 4) (ret := (some .int)) (by decide) rfl rfl (Nat.le_of_ble_eq_true rfl) (lv := [(0, .ref (ad (10 + p1))), (1, .int p2), (2, .int p3)]) rfl (fun C => ?_)
  rw [pX6_exchange]
  refine g_aload_n C 0 0 dX6_exchange_0 rfl ?_
  refine g_iload_n C 1 1 dX6_exchange_1 rfl ?_
  refine g_iald C 2 (10 + p1) 0 (wX_arr p1 hp1) rfl dX6_exchange_2 ?_
  refine g_istore_nV C 3 (fun v1 => [(3, .int v1), (0, .ref (ad (10 + p1))), (1, .int p2), (2, .int p3)]) dX6_exchange_3 (by decide) (fun _ => rfl) (fun v1 => ?_)
  refine g_aload_n C 4 1 dX6_exchange_4 rfl ?_
  refine g_iload_n C 5 2 dX6_exchange_5 rfl ?_
  refine g_iload_n C 6 3 dX6_exchange_6 rfl ?_
  refine g_iast C 7 (10 + p1) 0 p1 (wX_arr p1 hp1) (wX_aset p1 hp1) rfl dX6_exchange_7 (fun u2 => ?_)
  refine g_iload_n C 8 0 dX6_exchange_8 rfl ?_
  exact g_iret C 9 dX6_exchange_9
def pX6_trim (F : Nat) (p1 : Int32) (p2 : Int32) (p3 : Int32) (p4 : Int32) (u : St) : Option (Int32 × St) :=
  bd (pX6_isFlame F p1 p2 u) (fun (r2 : Int32) (u1 : St) => if r2 = 0 then some ((-1), u1) else bd (pX6_isIn F (Int32.toInt64 p3) 0 2 u1) (fun (r4 : Int32) (u3 : St) => if r4 = 0 then some ((-1), u3) else gd (inb p3 3) (bd (pX6_isIn F (Int32.toInt64 p4) 0 (tabFLAME_BOUNDS (Int32.toNatClampNeg p3)) u3) (fun (r6 : Int32) (u5 : St) => if r6 = 0 then some ((-1), u5) else gd (inb p1 4) (if (u5.2 3 (Int32.toNatClampNeg p1)) = 0 then jn (fun (a7 : Nat) (u8 : St) => bd (pX6_exchange F a7 ((2 * p1) + p2) p4 u8) (fun (r10 : Int32) (u9 : St) => some (r10, u9))) (fun (J87 : Nat → St → Option (Int32 × St)) => if p3 = 0 then (J87 0 u5) else if p3 = 1 then (J87 1 u5) else (J87 2 u5)) else some ((-2), u5))))))
set_option maxRecDepth 100000 in
set_option maxHeartbeats 4000000 in
theorem tX6_trim {l : Launch} {D : va_G} {cI cZ : ClassId} {ad : Nat → Nat} {tBURNS tFLAME_BOUNDS : Nat} {tS : Option Nat} {adK adV : Nat → Nat} (F : Nat) (p1 : Int32) (p2 : Int32) (p3 : Int32) (p4 : Int32) (u : St) : CtI l D [(cI, .int), (cZ, .boolean)] (wX ad cI cZ) (EX tBURNS tFLAME_BOUNDS tS adK adV) yX6_trim wsX6_trim ({ frames := 3, cells := 0, slots := 0, locals := 67 } : Room) [.ref (ad 0), .int p1, .int p2, .int p3, .int p4] u (pX6_trim F p1 p2 p3 p4 u) := by
  refine ctI_of (own := RX6) (cc := cX6_trim) (n := 5) (ret := (some .int)) (by decide) rfl rfl (Nat.le_of_ble_eq_true rfl) (lv := [(0, .ref (ad 0)), (1, .int p1), (2, .int p2), (3, .int p3), (4, .int p4)]) rfl (fun C => ?_)
  have iX0 : ∀ w ∈ wsX00, w ∈ wsX6_trim := fun w h => List.mem_cons_of_mem _ (List.mem_append_right _ (inlX0 w h))
  have iX6 : ∀ w ∈ wsX60, w ∈ wsX6_trim := fun w h => List.mem_cons_of_mem _ (List.mem_append_right _ (inlX6 w h))
  rw [pX6_trim]
  refine g_aload_n C 0 0 dX6_trim_0 rfl ?_
  refine g_iload_n C 1 1 dX6_trim_1 rfl ?_
  refine g_iload_n C 2 2 dX6_trim_2 rfl ?_
  refine g_callVi (st := []) (As := [.int p1, .int p2]) C EX_ok EX_vm 3 0 2 (tX6_isFlame F p1 p2 u) rfl gX6_trim_X6_isFlame rfl rfl rfl (by decide +kernel) ⟨Nat.le_of_ble_eq_true rfl, Nat.le_of_ble_eq_true rfl⟩ rfl rfl rfl (Nat.le_of_ble_eq_true rfl) dX6_trim_3 (fun r2 u1 => ?_)
  refine g_if_eq C 6 34 dX6_trim_6 (by decide) ?_ ?_
  · skip
    refine g_iconst C 34 (-1) dX6_trim_34 rfl ?_
    exact g_iret C 35 dX6_trim_35
  · skip
    refine g_iload_n C 9 3 dX6_trim_9 rfl ?_
    refine g_i2l C 10 dX6_trim_10 ?_
    refine g_iconst C 11 0 dX6_trim_11 rfl ?_
    refine g_iconst C 12 2 dX6_trim_12 rfl ?_
    refine g_callSi (st := []) (As := [.long (Int32.toInt64 p3), .int 0, .int 2]) C EX_ok EX_vm 13 3 (tX6_isIn F (Int32.toInt64 p3) 0 2 u1) rfl gX6_trim_X6_isIn rfl rfl rfl (by decide +kernel) ⟨Nat.le_of_ble_eq_true rfl, Nat.le_of_ble_eq_true rfl⟩ rfl (Nat.le_of_ble_eq_true rfl) dX6_trim_13 (fun r4 u3 => ?_)
    refine g_if_eq C 16 34 dX6_trim_16 (by decide) ?_ ?_
    · skip
      refine g_iconst C 34 (-1) dX6_trim_34 rfl ?_
      exact g_iret C 35 dX6_trim_35
    · skip
      refine g_iload C 19 4 dX6_trim_19 rfl ?_
      refine g_i2l C 21 dX6_trim_21 ?_
      refine g_iconst C 22 0 dX6_trim_22 rfl ?_
      refine g_gets C 23 (EX_zFLAME_BOUNDS C.2.2.2.2.2.2.2.2.1) (by decide +kernel) dX6_trim_23 ?_
      refine g_iload_n C 26 3 dX6_trim_26 rfl ?_
      refine g_ti C 27 (EX_tFLAME_BOUNDS C.2.2.2.2.2.2.2.2.1) dX6_trim_27 ?_
      refine g_callSi (st := []) (As := [.long (Int32.toInt64 p4), .int 0, .int (tabFLAME_BOUNDS (Int32.toNatClampNeg p3))]) C EX_ok EX_vm 28 3 (tX6_isIn F (Int32.toInt64 p4) 0 (tabFLAME_BOUNDS (Int32.toNatClampNeg p3)) u3) rfl gX6_trim_X6_isIn rfl rfl rfl (by decide +kernel) ⟨Nat.le_of_ble_eq_true rfl, Nat.le_of_ble_eq_true rfl⟩ rfl (Nat.le_of_ble_eq_true rfl) dX6_trim_28 (fun r6 u5 => ?_)
      refine g_if_ne C 31 36 dX6_trim_31 (by decide) ?_ ?_
      · skip
        refine g_aload_n C 36 0 dX6_trim_36 rfl ?_
        refine gfX_X6_court C 37 iX6 (List.mem_cons_of_mem _ (List.mem_append_right _ wgL_1_15.1)) dX6_trim_37 ?_
        refine gfX_X0_verdict 0 (by decide) C 40 iX0 (List.mem_cons_of_mem _ (List.mem_append_right _ wgL_18_9.1)) dX6_trim_40 ?_
        refine g_iload_n C 43 1 dX6_trim_43 rfl ?_
        refine g_iald C 44 (10 + 3) 0 (wX_arr 3 (by decide)) rfl dX6_trim_44 ?_
        refine g_if_eq C 45 51 dX6_trim_45 (by decide) ?_ ?_
        · skip
          refine g_iload_n C 51 3 dX6_trim_51 rfl ?_
          refine g_jnN 87 66 (fun (a7 : Nat) => [(1, .int p1), (2, .int p2), (4, .int p4)]) (fun (a7 : Nat) => [.ref (ad (10 + a7))]) (fun a7 ha7 u8 => ?_) (fun J87 hJ87 => ?_)
          · skip
            refine g_iconst C 87 2 dX6_trim_87 rfl ?_
            refine g_iload_n C 88 0 dX6_trim_88 rfl ?_
            refine g_imul C 89 dX6_trim_89 ?_
            refine g_iload_n C 90 1 dX6_trim_90 rfl ?_
            refine g_iadd C 91 dX6_trim_91 ?_
            refine g_iload C 92 2 dX6_trim_92 rfl ?_
            refine g_callSi (st := []) (As := [.ref (ad (10 + a7)), .int ((2 * p1) + p2), .int p4]) C EX_ok EX_vm 94 3 (tX6_exchange F a7 (by omega) ((2 * p1) + p2) p4 u8) rfl gX6_trim_X6_exchange rfl rfl rfl (by decide +kernel) ⟨Nat.le_of_ble_eq_true rfl, Nat.le_of_ble_eq_true rfl⟩ rfl (Nat.le_of_ble_eq_true rfl) dX6_trim_94 (fun r10 u9 => ?_)
            exact g_iret C 97 dX6_trim_97
          · skip
            refine g_if_ne C 52 65 dX6_trim_52 (by decide) ?_ ?_
            · skip
              refine g_iload_n C 65 3 dX6_trim_65 rfl ?_
              refine g_iconst C 66 1 dX6_trim_66 rfl ?_
              refine g_icmp_ne C 67 80 dX6_trim_67 (by decide) ?_ ?_
              · skip
                refine g_aload_n C 80 0 dX6_trim_80 rfl ?_
                refine gfX_X6_court C 81 iX6 (List.mem_cons_of_mem _ (List.mem_append_right _ wgL_1_15.1)) dX6_trim_81 ?_
                refine gfX_X0_guard 0 (by decide) C 84 iX0 (List.mem_cons_of_mem _ (List.mem_append_right _ wgL_19_11.1)) dX6_trim_84 ?_
                exact g_sub _ [1, 2, 4] rfl (hJ87 2 (by decide) u5)
              · skip
                refine g_aload_n C 70 0 dX6_trim_70 rfl ?_
                refine gfX_X6_court C 71 iX6 (List.mem_cons_of_mem _ (List.mem_append_right _ wgL_1_15.1)) dX6_trim_71 ?_
                refine gfX_X0_length 0 (by decide) C 74 iX0 (List.mem_cons_of_mem _ (List.mem_append_right _ wgL_18_10.1)) dX6_trim_74 ?_
                refine g_goto C 77 87 dX6_trim_77 (by decide) ?_
                exact g_sub _ [1, 2, 4] rfl (hJ87 1 (by decide) u5)
            · skip
              refine g_aload_n C 55 0 dX6_trim_55 rfl ?_
              refine gfX_X6_court C 56 iX6 (List.mem_cons_of_mem _ (List.mem_append_right _ wgL_1_15.1)) dX6_trim_56 ?_
              refine gfX_X0_kind 0 (by decide) C 59 iX0 (List.mem_cons_of_mem _ (List.mem_append_right _ wgL_19_10.1)) dX6_trim_59 ?_
              refine g_goto C 62 87 dX6_trim_62 (by decide) ?_
              exact g_sub _ [1, 2, 4] rfl (hJ87 0 (by decide) u5)
        · skip
          refine g_bipush C 48 (-2) dX6_trim_48 rfl ?_
          exact g_iret C 50 dX6_trim_50
      · skip
        refine g_iconst C 34 (-1) dX6_trim_34 rfl ?_
        exact g_iret C 35 dX6_trim_35
def pX6_train (F : Nat) (p1 : Int32) (p2 : Int32) (p3 : Int32) (u : St) : Option (Int32 × St) :=
  bd (pX0_hasJudge F 0 p1 u) (fun (r2 : Int32) (u1 : St) => if r2 = 0 then some ((-1), u1) else bd (pX6_isIn F (Int32.toInt64 p2) 0 1 u1) (fun (r4 : Int32) (u3 : St) => if r4 = 0 then some ((-1), u3) else if p2 = 0 then bd (pX6_isIn F (Int32.toInt64 p3) 0 3 u3) (fun (r10 : Int32) (u9 : St) => if r10 = 0 then some ((-1), u9) else bd (pX6_exchange F 7 p1 p3 u9) (fun (r12 : Int32) (u11 : St) => some (r12, u11))) else bd (pX6_isIn F (Int32.toInt64 p3) 1 9 u3) (fun (r6 : Int32) (u5 : St) => if r6 = 0 then some ((-1), u5) else bd (pX6_exchange F 8 p1 p3 u5) (fun (r8 : Int32) (u7 : St) => some (r8, u7)))))
set_option maxRecDepth 100000 in
set_option maxHeartbeats 4000000 in
theorem tX6_train {l : Launch} {D : va_G} {cI cZ : ClassId} {ad : Nat → Nat} {tBURNS tFLAME_BOUNDS : Nat} {tS : Option Nat} {adK adV : Nat → Nat} (F : Nat) (p1 : Int32) (p2 : Int32) (p3 : Int32) (u : St) : CtI l D [(cI, .int), (cZ, .boolean)] (wX ad cI cZ) (EX tBURNS tFLAME_BOUNDS tS adK adV) yX6_train wsX6_train ({ frames := 2, cells := 0, slots := 0, locals := 44 } : Room) [.ref (ad 0), .int p1, .int p2, .int p3] u (pX6_train F p1 p2 p3 u) := by
  refine ctI_of (own := RX6) (cc := cX6_train) (n := 4) (ret := (some .int)) (by decide) rfl rfl (Nat.le_of_ble_eq_true rfl) (lv := [(0, .ref (ad 0)), (1, .int p1), (2, .int p2), (3, .int p3)]) rfl (fun C => ?_)
  have iX0 : ∀ w ∈ wsX00, w ∈ wsX6_train := fun w h => List.mem_cons_of_mem _ (List.mem_append_right _ (inlX0 w h))
  have iX6 : ∀ w ∈ wsX60, w ∈ wsX6_train := fun w h => List.mem_cons_of_mem _ (List.mem_append_right _ (inlX6 w h))
  rw [pX6_train]
  refine g_aload_n C 0 0 dX6_train_0 rfl ?_
  refine gfX_X6_court C 1 iX6 (List.mem_cons_of_mem _ (List.mem_append_right _ wgL_1_15.1)) dX6_train_1 ?_
  refine g_iload_n C 4 1 dX6_train_4 rfl ?_
  refine g_callVi (st := []) (As := [.int p1]) C EX_ok EX_vm 5 1 1 (tX0_hasJudge F 0 (by decide) p1 u) rfl gX6_train_X0_hasJudge rfl rfl rfl (by decide +kernel) ⟨Nat.le_of_ble_eq_true rfl, Nat.le_of_ble_eq_true rfl⟩ (wX_X0 ad cI cZ _ 0 (by decide)) rfl rfl (Nat.le_of_ble_eq_true rfl) dX6_train_5 (fun r2 u1 => ?_)
  refine g_if_eq C 8 21 dX6_train_8 (by decide) ?_ ?_
  · skip
    refine g_iconst C 21 (-1) dX6_train_21 rfl ?_
    exact g_iret C 22 dX6_train_22
  · skip
    refine g_iload_n C 11 2 dX6_train_11 rfl ?_
    refine g_i2l C 12 dX6_train_12 ?_
    refine g_iconst C 13 0 dX6_train_13 rfl ?_
    refine g_iconst C 14 1 dX6_train_14 rfl ?_
    refine g_callSi (st := []) (As := [.long (Int32.toInt64 p2), .int 0, .int 1]) C EX_ok EX_vm 15 3 (tX6_isIn F (Int32.toInt64 p2) 0 1 u1) rfl gX6_train_X6_isIn rfl rfl rfl (by decide +kernel) ⟨Nat.le_of_ble_eq_true rfl, Nat.le_of_ble_eq_true rfl⟩ rfl (Nat.le_of_ble_eq_true rfl) dX6_train_15 (fun r4 u3 => ?_)
    refine g_if_ne C 18 23 dX6_train_18 (by decide) ?_ ?_
    · skip
      refine g_iload_n C 23 2 dX6_train_23 rfl ?_
      refine g_if_ne C 24 54 dX6_train_24 (by decide) ?_ ?_
      · skip
        refine g_iload_n C 54 3 dX6_train_54 rfl ?_
        refine g_i2l C 55 dX6_train_55 ?_
        refine g_iconst C 56 1 dX6_train_56 rfl ?_
        refine g_bipush C 57 9 dX6_train_57 rfl ?_
        refine g_callSi (st := []) (As := [.long (Int32.toInt64 p3), .int 1, .int 9]) C EX_ok EX_vm 59 3 (tX6_isIn F (Int32.toInt64 p3) 1 9 u3) rfl gX6_train_X6_isIn rfl rfl rfl (by decide +kernel) ⟨Nat.le_of_ble_eq_true rfl, Nat.le_of_ble_eq_true rfl⟩ rfl (Nat.le_of_ble_eq_true rfl) dX6_train_59 (fun r6 u5 => ?_)
        refine g_if_eq C 62 80 dX6_train_62 (by decide) ?_ ?_
        · skip
          refine g_iconst C 80 (-1) dX6_train_80 rfl ?_
          exact g_iret C 81 dX6_train_81
        · skip
          refine g_aload_n C 65 0 dX6_train_65 rfl ?_
          refine gfX_X6_court C 66 iX6 (List.mem_cons_of_mem _ (List.mem_append_right _ wgL_1_15.1)) dX6_train_66 ?_
          refine gfX_X0_slow 0 (by decide) C 69 iX0 (List.mem_cons_of_mem _ (List.mem_append_right _ wgL_21_0.1)) dX6_train_69 ?_
          refine g_iload_n C 72 1 dX6_train_72 rfl ?_
          refine g_iload_n C 73 3 dX6_train_73 rfl ?_
          refine g_callSi (st := []) (As := [.ref (ad (10 + 8)), .int p1, .int p3]) C EX_ok EX_vm 74 3 (tX6_exchange F 8 (by decide) p1 p3 u5) rfl gX6_train_X6_exchange rfl rfl rfl (by decide +kernel) ⟨Nat.le_of_ble_eq_true rfl, Nat.le_of_ble_eq_true rfl⟩ rfl (Nat.le_of_ble_eq_true rfl) dX6_train_74 (fun r8 u7 => ?_)
          refine g_goto C 77 81 dX6_train_77 (by decide) ?_
          exact g_iret C 81 dX6_train_81
      · skip
        refine g_iload_n C 27 3 dX6_train_27 rfl ?_
        refine g_i2l C 28 dX6_train_28 ?_
        refine g_iconst C 29 0 dX6_train_29 rfl ?_
        refine g_iconst C 30 3 dX6_train_30 rfl ?_
        refine g_callSi (st := []) (As := [.long (Int32.toInt64 p3), .int 0, .int 3]) C EX_ok EX_vm 31 3 (tX6_isIn F (Int32.toInt64 p3) 0 3 u3) rfl gX6_train_X6_isIn rfl rfl rfl (by decide +kernel) ⟨Nat.le_of_ble_eq_true rfl, Nat.le_of_ble_eq_true rfl⟩ rfl (Nat.le_of_ble_eq_true rfl) dX6_train_31 (fun r10 u9 => ?_)
        refine g_if_eq C 34 52 dX6_train_34 (by decide) ?_ ?_
        · skip
          refine g_iconst C 52 (-1) dX6_train_52 rfl ?_
          exact g_iret C 53 dX6_train_53
        · skip
          refine g_aload_n C 37 0 dX6_train_37 rfl ?_
          refine gfX_X6_court C 38 iX6 (List.mem_cons_of_mem _ (List.mem_append_right _ wgL_1_15.1)) dX6_train_38 ?_
          refine gfX_X0_habit 0 (by decide) C 41 iX0 (List.mem_cons_of_mem _ (List.mem_append_right _ wgL_20_23.1)) dX6_train_41 ?_
          refine g_iload_n C 44 1 dX6_train_44 rfl ?_
          refine g_iload_n C 45 3 dX6_train_45 rfl ?_
          refine g_callSi (st := []) (As := [.ref (ad (10 + 7)), .int p1, .int p3]) C EX_ok EX_vm 46 3 (tX6_exchange F 7 (by decide) p1 p3 u9) rfl gX6_train_X6_exchange rfl rfl rfl (by decide +kernel) ⟨Nat.le_of_ble_eq_true rfl, Nat.le_of_ble_eq_true rfl⟩ rfl (Nat.le_of_ble_eq_true rfl) dX6_train_46 (fun r12 u11 => ?_)
          refine g_goto C 49 53 dX6_train_49 (by decide) ?_
          exact g_iret C 53 dX6_train_53
    · skip
      refine g_iconst C 21 (-1) dX6_train_21 rfl ?_
      exact g_iret C 22 dX6_train_22
def pX6_blow (F : Nat) (p1 : Int32) (p2 : Int32) (u : St) : Option (Int32 × St) :=
  bd (pX6_isIn F (Int32.toInt64 p1) 0 20 u) (fun (r2 : Int32) (u1 : St) => if r2 = 0 then some ((-1), u1) else bd (pX6_isIn F (Int32.toInt64 p2) 1 9 u1) (fun (r4 : Int32) (u3 : St) => if r4 = 0 then some ((-1), u3) else bd (pX0_addDraught F 0 p1 p2 u3) (fun (r6 : Int32) (u5 : St) => if r6 = 0 then some ((-3), u5) else some ((u5.1 2), u5))))
set_option maxRecDepth 100000 in
set_option maxHeartbeats 4000000 in
theorem tX6_blow {l : Launch} {D : va_G} {cI cZ : ClassId} {ad : Nat → Nat} {tBURNS tFLAME_BOUNDS : Nat} {tS : Option Nat} {adK adV : Nat → Nat} (F : Nat) (p1 : Int32) (p2 : Int32) (u : St) : CtI l D [(cI, .int), (cZ, .boolean)] (wX ad cI cZ) (EX tBURNS tFLAME_BOUNDS tS adK adV) yX6_blow wsX6_blow ({ frames := 1, cells := 0, slots := 0, locals := 23 } : Room) [.ref (ad 0), .int p1, .int p2] u (pX6_blow F p1 p2 u) := by
  refine ctI_of (own := RX6) (cc := cX6_blow) (n := 3) (ret := (some .int)) (by decide) rfl rfl (Nat.le_of_ble_eq_true rfl) (lv := [(0, .ref (ad 0)), (1, .int p1), (2, .int p2)]) rfl (fun C => ?_)
  have iX0 : ∀ w ∈ wsX00, w ∈ wsX6_blow := fun w h => List.mem_cons_of_mem _ (List.mem_append_right _ (inlX0 w h))
  have iX6 : ∀ w ∈ wsX60, w ∈ wsX6_blow := fun w h => List.mem_cons_of_mem _ (List.mem_append_right _ (inlX6 w h))
  rw [pX6_blow]
  refine g_iload_n C 0 1 dX6_blow_0 rfl ?_
  refine g_i2l C 1 dX6_blow_1 ?_
  refine g_iconst C 2 0 dX6_blow_2 rfl ?_
  refine g_bipush C 3 20 dX6_blow_3 rfl ?_
  refine g_callSi (st := []) (As := [.long (Int32.toInt64 p1), .int 0, .int 20]) C EX_ok EX_vm 5 3 (tX6_isIn F (Int32.toInt64 p1) 0 20 u) rfl gX6_blow_X6_isIn rfl rfl rfl (by decide +kernel) ⟨Nat.le_of_ble_eq_true rfl, Nat.le_of_ble_eq_true rfl⟩ rfl (Nat.le_of_ble_eq_true rfl) dX6_blow_5 (fun r2 u1 => ?_)
  refine g_if_eq C 8 22 dX6_blow_8 (by decide) ?_ ?_
  · skip
    refine g_iconst C 22 (-1) dX6_blow_22 rfl ?_
    exact g_iret C 23 dX6_blow_23
  · skip
    refine g_iload_n C 11 2 dX6_blow_11 rfl ?_
    refine g_i2l C 12 dX6_blow_12 ?_
    refine g_iconst C 13 1 dX6_blow_13 rfl ?_
    refine g_bipush C 14 9 dX6_blow_14 rfl ?_
    refine g_callSi (st := []) (As := [.long (Int32.toInt64 p2), .int 1, .int 9]) C EX_ok EX_vm 16 3 (tX6_isIn F (Int32.toInt64 p2) 1 9 u1) rfl gX6_blow_X6_isIn rfl rfl rfl (by decide +kernel) ⟨Nat.le_of_ble_eq_true rfl, Nat.le_of_ble_eq_true rfl⟩ rfl (Nat.le_of_ble_eq_true rfl) dX6_blow_16 (fun r4 u3 => ?_)
    refine g_if_ne C 19 24 dX6_blow_19 (by decide) ?_ ?_
    · skip
      refine g_aload_n C 24 0 dX6_blow_24 rfl ?_
      refine gfX_X6_court C 25 iX6 (List.mem_cons_of_mem _ (List.mem_append_right _ wgL_1_15.1)) dX6_blow_25 ?_
      refine g_iload_n C 28 1 dX6_blow_28 rfl ?_
      refine g_iload_n C 29 2 dX6_blow_29 rfl ?_
      refine g_callVi (st := []) (As := [.int p1, .int p2]) C EX_ok EX_vm 30 1 2 (tX0_addDraught F 0 (by decide) p1 p2 u3) rfl gX6_blow_X0_addDraught rfl rfl rfl (by decide +kernel) ⟨Nat.le_of_ble_eq_true rfl, Nat.le_of_ble_eq_true rfl⟩ (wX_X0 ad cI cZ _ 0 (by decide)) rfl rfl (Nat.le_of_ble_eq_true rfl) dX6_blow_30 (fun r6 u5 => ?_)
      refine g_if_eq C 33 46 dX6_blow_33 (by decide) ?_ ?_
      · skip
        refine g_bipush C 46 (-3) dX6_blow_46 rfl ?_
        exact g_iret C 48 dX6_blow_48
      · skip
        refine g_aload_n C 36 0 dX6_blow_36 rfl ?_
        refine gfX_X6_court C 37 iX6 (List.mem_cons_of_mem _ (List.mem_append_right _ wgL_1_15.1)) dX6_blow_37 ?_
        refine gfX_X0_draughts 0 (by decide) C 40 iX0 (List.mem_cons_of_mem _ (List.mem_append_right _ wgL_18_7.1)) dX6_blow_40 ?_
        refine g_goto C 43 48 dX6_blow_43 (by decide) ?_
        exact g_iret C 48 dX6_blow_48
    · skip
      refine g_iconst C 22 (-1) dX6_blow_22 rfl ?_
      exact g_iret C 23 dX6_blow_23
def pX6_calm (F : Nat) (p1 : Int32) (u : St) : Option (Int32 × St) :=
  bd (pX6_isIn F (Int32.toInt64 p1) 0 (u.1 2) u) (fun (r2 : Int32) (u1 : St) => if r2 = 0 then some ((-1), u1) else vl (u1.1 2) (fun v3 => vl (stf u1 2 p1) (fun (u4 : St) => some (v3, u4))))
set_option maxRecDepth 100000 in
set_option maxHeartbeats 4000000 in
theorem tX6_calm {l : Launch} {D : va_G} {cI cZ : ClassId} {ad : Nat → Nat} {tBURNS tFLAME_BOUNDS : Nat} {tS : Option Nat} {adK adV : Nat → Nat} (F : Nat) (p1 : Int32) (u : St) : CtI l D [(cI, .int), (cZ, .boolean)] (wX ad cI cZ) (EX tBURNS tFLAME_BOUNDS tS adK adV) yX6_calm wsX6_calm ({ frames := 1, cells := 0, slots := 0, locals := 23 } : Room) [.ref (ad 0), .int p1] u (pX6_calm F p1 u) := by
  refine ctI_of (own := RX6) (cc := cX6_calm) (n := 3) (ret := (some .int)) (by decide) rfl rfl (Nat.le_of_ble_eq_true rfl) (lv := [(0, .ref (ad 0)), (1, .int p1)]) rfl (fun C => ?_)
  have iX0 : ∀ w ∈ wsX00, w ∈ wsX6_calm := fun w h => List.mem_cons_of_mem _ (List.mem_append_right _ (inlX0 w h))
  have iX6 : ∀ w ∈ wsX60, w ∈ wsX6_calm := fun w h => List.mem_cons_of_mem _ (List.mem_append_right _ (inlX6 w h))
  rw [pX6_calm]
  refine g_iload_n C 0 1 dX6_calm_0 rfl ?_
  refine g_i2l C 1 dX6_calm_1 ?_
  refine g_iconst C 2 0 dX6_calm_2 rfl ?_
  refine g_aload_n C 3 0 dX6_calm_3 rfl ?_
  refine gfX_X6_court C 4 iX6 (List.mem_cons_of_mem _ (List.mem_append_right _ wgL_1_15.1)) dX6_calm_4 ?_
  refine gfX_X0_draughts 0 (by decide) C 7 iX0 (List.mem_cons_of_mem _ (List.mem_append_right _ wgL_18_7.1)) dX6_calm_7 ?_
  refine g_callSi (st := []) (As := [.long (Int32.toInt64 p1), .int 0, .int (u.1 2)]) C EX_ok EX_vm 10 3 (tX6_isIn F (Int32.toInt64 p1) 0 (u.1 2) u) rfl gX6_calm_X6_isIn rfl rfl rfl (by decide +kernel) ⟨Nat.le_of_ble_eq_true rfl, Nat.le_of_ble_eq_true rfl⟩ rfl (Nat.le_of_ble_eq_true rfl) dX6_calm_10 (fun r2 u1 => ?_)
  refine g_if_ne C 13 18 dX6_calm_13 (by decide) ?_ ?_
  · skip
    refine g_aload_n C 18 0 dX6_calm_18 rfl ?_
    refine gfX_X6_court C 19 iX6 (List.mem_cons_of_mem _ (List.mem_append_right _ wgL_1_15.1)) dX6_calm_19 ?_
    refine gfX_X0_draughts 0 (by decide) C 22 iX0 (List.mem_cons_of_mem _ (List.mem_append_right _ wgL_18_7.1)) dX6_calm_22 ?_
    refine g_istore_nV C 25 (fun v3 => [(2, .int v3), (0, .ref (ad 0)), (1, .int p1)]) dX6_calm_25 (by decide) (fun _ => rfl) (fun v3 => ?_)
    refine g_aload_n C 26 1 dX6_calm_26 rfl ?_
    refine gfX_X6_court C 27 iX6 (List.mem_cons_of_mem _ (List.mem_append_right _ wgL_1_15.1)) dX6_calm_27 ?_
    refine g_iload_n C 30 2 dX6_calm_30 rfl ?_
    refine pfX_X0_draughts 0 (by decide) C 31 iX0 (List.mem_cons_of_mem _ (List.mem_append_right _ wgL_18_7.1)) dX6_calm_31 (fun u4 => ?_)
    refine g_iload_n C 34 0 dX6_calm_34 rfl ?_
    exact g_iret C 35 dX6_calm_35
  · skip
    refine g_iconst C 16 (-1) dX6_calm_16 rfl ?_
    exact g_iret C 17 dX6_calm_17
def pX6_plan (F : Nat) (p1 : Int32) (p2 : Int32) (u : St) : Option (Int32 × St) :=
  bd (pX0_hasCase F 0 (Int32.toInt64 p1) u) (fun (r2 : Int32) (u1 : St) => if r2 = 0 then some ((-1), u1) else bd (pX0_hasJudge F 0 p2 u1) (fun (r4 : Int32) (u3 : St) => if r4 = 0 then some ((-1), u3) else bd (pX0_addHearing F 0 p1 p2 u3) (fun (r6 : Int32) (u5 : St) => if r6 = 0 then some ((-3), u5) else some ((u5.1 3), u5))))
set_option maxRecDepth 100000 in
set_option maxHeartbeats 4000000 in
theorem tX6_plan {l : Launch} {D : va_G} {cI cZ : ClassId} {ad : Nat → Nat} {tBURNS tFLAME_BOUNDS : Nat} {tS : Option Nat} {adK adV : Nat → Nat} (F : Nat) (p1 : Int32) (p2 : Int32) (u : St) : CtI l D [(cI, .int), (cZ, .boolean)] (wX ad cI cZ) (EX tBURNS tFLAME_BOUNDS tS adK adV) yX6_plan wsX6_plan ({ frames := 2, cells := 0, slots := 0, locals := 45 } : Room) [.ref (ad 0), .int p1, .int p2] u (pX6_plan F p1 p2 u) := by
  refine ctI_of (own := RX6) (cc := cX6_plan) (n := 3) (ret := (some .int)) (by decide) rfl rfl (Nat.le_of_ble_eq_true rfl) (lv := [(0, .ref (ad 0)), (1, .int p1), (2, .int p2)]) rfl (fun C => ?_)
  have iX0 : ∀ w ∈ wsX00, w ∈ wsX6_plan := fun w h => List.mem_cons_of_mem _ (List.mem_append_right _ (inlX0 w h))
  have iX6 : ∀ w ∈ wsX60, w ∈ wsX6_plan := fun w h => List.mem_cons_of_mem _ (List.mem_append_right _ (inlX6 w h))
  rw [pX6_plan]
  refine g_aload_n C 0 0 dX6_plan_0 rfl ?_
  refine gfX_X6_court C 1 iX6 (List.mem_cons_of_mem _ (List.mem_append_right _ wgL_1_15.1)) dX6_plan_1 ?_
  refine g_iload_n C 4 1 dX6_plan_4 rfl ?_
  refine g_i2l C 5 dX6_plan_5 ?_
  refine g_callVi (st := []) (As := [.long (Int32.toInt64 p1)]) C EX_ok EX_vm 6 1 1 (tX0_hasCase F 0 (by decide) (Int32.toInt64 p1) u) rfl gX6_plan_X0_hasCase rfl rfl rfl (by decide +kernel) ⟨Nat.le_of_ble_eq_true rfl, Nat.le_of_ble_eq_true rfl⟩ (wX_X0 ad cI cZ _ 0 (by decide)) rfl rfl (Nat.le_of_ble_eq_true rfl) dX6_plan_6 (fun r2 u1 => ?_)
  refine g_if_eq C 9 23 dX6_plan_9 (by decide) ?_ ?_
  · skip
    refine g_iconst C 23 (-1) dX6_plan_23 rfl ?_
    exact g_iret C 24 dX6_plan_24
  · skip
    refine g_aload_n C 12 0 dX6_plan_12 rfl ?_
    refine gfX_X6_court C 13 iX6 (List.mem_cons_of_mem _ (List.mem_append_right _ wgL_1_15.1)) dX6_plan_13 ?_
    refine g_iload_n C 16 2 dX6_plan_16 rfl ?_
    refine g_callVi (st := []) (As := [.int p2]) C EX_ok EX_vm 17 1 1 (tX0_hasJudge F 0 (by decide) p2 u1) rfl gX6_plan_X0_hasJudge rfl rfl rfl (by decide +kernel) ⟨Nat.le_of_ble_eq_true rfl, Nat.le_of_ble_eq_true rfl⟩ (wX_X0 ad cI cZ _ 0 (by decide)) rfl rfl (Nat.le_of_ble_eq_true rfl) dX6_plan_17 (fun r4 u3 => ?_)
    refine g_if_ne C 20 25 dX6_plan_20 (by decide) ?_ ?_
    · skip
      refine g_aload_n C 25 0 dX6_plan_25 rfl ?_
      refine gfX_X6_court C 26 iX6 (List.mem_cons_of_mem _ (List.mem_append_right _ wgL_1_15.1)) dX6_plan_26 ?_
      refine g_iload_n C 29 1 dX6_plan_29 rfl ?_
      refine g_iload_n C 30 2 dX6_plan_30 rfl ?_
      refine g_callVi (st := []) (As := [.int p1, .int p2]) C EX_ok EX_vm 31 1 2 (tX0_addHearing F 0 (by decide) p1 p2 u3) rfl gX6_plan_X0_addHearing rfl rfl rfl (by decide +kernel) ⟨Nat.le_of_ble_eq_true rfl, Nat.le_of_ble_eq_true rfl⟩ (wX_X0 ad cI cZ _ 0 (by decide)) rfl rfl (Nat.le_of_ble_eq_true rfl) dX6_plan_31 (fun r6 u5 => ?_)
      refine g_if_eq C 34 47 dX6_plan_34 (by decide) ?_ ?_
      · skip
        refine g_bipush C 47 (-3) dX6_plan_47 rfl ?_
        exact g_iret C 49 dX6_plan_49
      · skip
        refine g_aload_n C 37 0 dX6_plan_37 rfl ?_
        refine gfX_X6_court C 38 iX6 (List.mem_cons_of_mem _ (List.mem_append_right _ wgL_1_15.1)) dX6_plan_38 ?_
        refine gfX_X0_hearings 0 (by decide) C 41 iX0 (List.mem_cons_of_mem _ (List.mem_append_right _ wgL_18_8.1)) dX6_plan_41 ?_
        refine g_goto C 44 49 dX6_plan_44 (by decide) ?_
        exact g_iret C 49 dX6_plan_49
    · skip
      refine g_iconst C 23 (-1) dX6_plan_23 rfl ?_
      exact g_iret C 24 dX6_plan_24
def pX6_cut (F : Nat) (p1 : Int32) (u : St) : Option (Int32 × St) :=
  bd (pX6_isIn F (Int32.toInt64 p1) 0 (u.1 3) u) (fun (r2 : Int32) (u1 : St) => if r2 = 0 then some ((-1), u1) else vl (u1.1 3) (fun v3 => vl (stf u1 3 p1) (fun (u4 : St) => some (v3, u4))))
set_option maxRecDepth 100000 in
set_option maxHeartbeats 4000000 in
theorem tX6_cut {l : Launch} {D : va_G} {cI cZ : ClassId} {ad : Nat → Nat} {tBURNS tFLAME_BOUNDS : Nat} {tS : Option Nat} {adK adV : Nat → Nat} (F : Nat) (p1 : Int32) (u : St) : CtI l D [(cI, .int), (cZ, .boolean)] (wX ad cI cZ) (EX tBURNS tFLAME_BOUNDS tS adK adV) yX6_cut wsX6_cut ({ frames := 1, cells := 0, slots := 0, locals := 23 } : Room) [.ref (ad 0), .int p1] u (pX6_cut F p1 u) := by
  refine ctI_of (own := RX6) (cc := cX6_cut) (n := 3) (ret := (some .int)) (by decide) rfl rfl (Nat.le_of_ble_eq_true rfl) (lv := [(0, .ref (ad 0)), (1, .int p1)]) rfl (fun C => ?_)
  have iX0 : ∀ w ∈ wsX00, w ∈ wsX6_cut := fun w h => List.mem_cons_of_mem _ (List.mem_append_right _ (inlX0 w h))
  have iX6 : ∀ w ∈ wsX60, w ∈ wsX6_cut := fun w h => List.mem_cons_of_mem _ (List.mem_append_right _ (inlX6 w h))
  rw [pX6_cut]
  refine g_iload_n C 0 1 dX6_cut_0 rfl ?_
  refine g_i2l C 1 dX6_cut_1 ?_
  refine g_iconst C 2 0 dX6_cut_2 rfl ?_
  refine g_aload_n C 3 0 dX6_cut_3 rfl ?_
  refine gfX_X6_court C 4 iX6 (List.mem_cons_of_mem _ (List.mem_append_right _ wgL_1_15.1)) dX6_cut_4 ?_
  refine gfX_X0_hearings 0 (by decide) C 7 iX0 (List.mem_cons_of_mem _ (List.mem_append_right _ wgL_18_8.1)) dX6_cut_7 ?_
  refine g_callSi (st := []) (As := [.long (Int32.toInt64 p1), .int 0, .int (u.1 3)]) C EX_ok EX_vm 10 3 (tX6_isIn F (Int32.toInt64 p1) 0 (u.1 3) u) rfl gX6_cut_X6_isIn rfl rfl rfl (by decide +kernel) ⟨Nat.le_of_ble_eq_true rfl, Nat.le_of_ble_eq_true rfl⟩ rfl (Nat.le_of_ble_eq_true rfl) dX6_cut_10 (fun r2 u1 => ?_)
  refine g_if_ne C 13 18 dX6_cut_13 (by decide) ?_ ?_
  · skip
    refine g_aload_n C 18 0 dX6_cut_18 rfl ?_
    refine gfX_X6_court C 19 iX6 (List.mem_cons_of_mem _ (List.mem_append_right _ wgL_1_15.1)) dX6_cut_19 ?_
    refine gfX_X0_hearings 0 (by decide) C 22 iX0 (List.mem_cons_of_mem _ (List.mem_append_right _ wgL_18_8.1)) dX6_cut_22 ?_
    refine g_istore_nV C 25 (fun v3 => [(2, .int v3), (0, .ref (ad 0)), (1, .int p1)]) dX6_cut_25 (by decide) (fun _ => rfl) (fun v3 => ?_)
    refine g_aload_n C 26 1 dX6_cut_26 rfl ?_
    refine gfX_X6_court C 27 iX6 (List.mem_cons_of_mem _ (List.mem_append_right _ wgL_1_15.1)) dX6_cut_27 ?_
    refine g_iload_n C 30 2 dX6_cut_30 rfl ?_
    refine pfX_X0_hearings 0 (by decide) C 31 iX0 (List.mem_cons_of_mem _ (List.mem_append_right _ wgL_18_8.1)) dX6_cut_31 (fun u4 => ?_)
    refine g_iload_n C 34 0 dX6_cut_34 rfl ?_
    exact g_iret C 35 dX6_cut_35
  · skip
    refine g_iconst C 16 (-1) dX6_cut_16 rfl ?_
    exact g_iret C 17 dX6_cut_17
def pX5_blows (F : Nat) (p1 : Int32) (p2 : Int32) (u : St) : Option (Unit × St) :=
  gd (inb p1 21) (gd (inb p1 21) (vl (sta u 58 p1 (if (u.2 58 (Int32.toNatClampNeg p1)) < p2 then p2 else (u.2 58 (Int32.toNatClampNeg p1)))) (fun (u1 : St) => some ((), u1))))
set_option maxRecDepth 100000 in
set_option maxHeartbeats 4000000 in
theorem tX5_blows {l : Launch} {D : va_G} {cI cZ : ClassId} {ad : Nat → Nat} {tBURNS tFLAME_BOUNDS : Nat} {tS : Option Nat} {adK adV : Nat → Nat} (F : Nat) (p1 : Int32) (p2 : Int32) (u : St) : CtV l D [(cI, .int), (cZ, .boolean)] (wX ad cI cZ) (EX tBURNS tFLAME_BOUNDS tS adK adV) yX5_blows wsX5_blows ({ frames := 1, cells := 0, slots := 0, locals := 15 } : Room) [.ref (ad 6), .int p1, .int p2] u (pX5_blows F p1 p2 u) := by
  refine ctV_of (own := RX5) (cc := cX5_blows) (n := 3) (ret := none) (by decide) rfl rfl (Nat.le_of_ble_eq_true rfl) (lv := [(0, .ref (ad 6)), (1, .int p1), (2, .int p2)]) rfl (fun C => ?_)
  have iX5 : ∀ w ∈ wsX50, w ∈ wsX5_blows := fun w h => List.mem_cons_of_mem _ (List.mem_append_right _ (inlX5 w h))
  rw [pX5_blows]
  refine g_aload_n C 0 0 dX5_blows_0 rfl ?_
  refine gfX_X5_strongest C 1 iX5 (List.mem_cons_of_mem _ (List.mem_append_right _ wgL_4_11.1)) dX5_blows_1 ?_
  refine g_iload_n C 4 1 dX5_blows_4 rfl ?_
  refine g_aload_n C 5 0 dX5_blows_5 rfl ?_
  refine gfX_X5_strongest C 6 iX5 (List.mem_cons_of_mem _ (List.mem_append_right _ wgL_4_11.1)) dX5_blows_6 ?_
  refine g_iload_n C 9 1 dX5_blows_9 rfl ?_
  refine g_iald C 10 (10 + 58) 0 (wX_arr 58 (by decide)) rfl dX5_blows_10 ?_
  refine g_iload_n C 11 2 dX5_blows_11 rfl ?_
  refine g_mmax C 12 (by decide +kernel) (by decide +kernel) (by decide +kernel) (by decide +kernel) ⟨Nat.le_of_ble_eq_true rfl, Nat.le_of_ble_eq_true rfl⟩ dX5_blows_12 ?_
  refine g_iast C 15 (10 + 58) 0 58 (wX_arr 58 (by decide)) (wX_aset 58 (by decide)) rfl dX5_blows_15 (fun u1 => ?_)
  exact g_vret C 16 dX5_blows_16
def bX5_prepare_119 (F : Nat) (p4 : Int32) (self7 : Int32 → St → Option (Unit × St)) (x5 : Int32) (u6 : St) : Option (Unit × St) :=
  if (u6.1 2) ≤ x5 then some ((), u6) else jn (fun (u8 : St) => (self7 (x5 + 1) u8)) (fun (J156 : St → Option (Unit × St)) => if ((p4 >>> (x5 &&& 31)) &&& 1) = 0 then gd (inb x5 4) (gd (inb x5 4) (bd (pX5_blows F (u6.2 9 (Int32.toNatClampNeg x5)) (u6.2 10 (Int32.toNatClampNeg x5)) u6) (fun (_ : Unit) (u9 : St) => (J156 u9)))) else (J156 u6))
def jX5_prepare_116 (F : Nat) (p4 : Int32)  (u4 : St) : Option (Unit × St) :=
  (lq1 (bX5_prepare_119 F p4) F 0 u4)
def bX5_prepare_92 (F : Nat) (J116 : St → Option (Unit × St)) (self12 : Int32 → St → Option (Unit × St)) (x10 : Int32) (u11 : St) : Option (Unit × St) :=
  if (Int32.ofNat 21) ≤ x10 then (J116 u11) else gd (inb x10 21) (vl (sta u11 58 x10 0) (fun (u13 : St) => (self12 (x10 + 1) u13)))
def jX5_prepare_69 (F : Nat) (p3 : Int32) (p4 : Int32)  (u1 : St) : Option (Unit × St) :=
  gd (inb p3 3) (vl (stf u1 24 (u1.2 7 (Int32.toNatClampNeg p3))) (fun (u2 : St) => gd (inb p3 3) (vl (stf u2 25 (u2.2 8 (Int32.toNatClampNeg p3))) (fun (u3 : St) => jn (jX5_prepare_116 F p4) (fun (J116 : St → Option (Unit × St)) => (lq1 (bX5_prepare_92 F J116) F 0 u3))))))
def bX5_prepare_3 (F : Nat) (p2 : Int32) (J69 : St → Option (Unit × St)) (self16 : Int32 → St → Option (Unit × St)) (x14 : Int32) (u15 : St) : Option (Unit × St) :=
  if 2 ≤ x14 then (J69 u15) else gd (inb ((2 * p2) + x14) 8) (gd (inb x14 2) (vl (sta u15 55 x14 (u15.2 0 (Int32.toNatClampNeg ((2 * p2) + x14)))) (fun (u17 : St) => gd (inb ((2 * p2) + x14) 8) (gd (inb x14 2) (vl (sta u17 56 x14 (u17.2 1 (Int32.toNatClampNeg ((2 * p2) + x14)))) (fun (u18 : St) => gd (inb ((2 * p2) + x14) 8) (gd (inb x14 2) (vl (sta u18 57 x14 (u18.2 2 (Int32.toNatClampNeg ((2 * p2) + x14)))) (fun (u19 : St) => (self16 (x14 + 1) u19))))))))))
def pX5_prepare (F : Nat) (p2 : Int32) (p3 : Int32) (p4 : Int32) (u : St) : Option (Unit × St) :=
  jn (jX5_prepare_69 F p3 p4) (fun (J69 : St → Option (Unit × St)) => (lq1 (bX5_prepare_3 F p2 J69) F 0 u))
set_option maxRecDepth 100000 in
set_option maxHeartbeats 4000000 in
theorem tX5_prepare {l : Launch} {D : va_G} {cI cZ : ClassId} {ad : Nat → Nat} {tBURNS tFLAME_BOUNDS : Nat} {tS : Option Nat} {adK adV : Nat → Nat} (F : Nat) (p2 : Int32) (p3 : Int32) (p4 : Int32) (u : St) : CtV l D [(cI, .int), (cZ, .boolean)] (wX ad cI cZ) (EX tBURNS tFLAME_BOUNDS tS adK adV) yX5_prepare wsX5_prepare ({ frames := 2, cells := 0, slots := 0, locals := 37 } : Room) [.ref (ad 6), .ref (ad 1), .int p2, .int p3, .int p4] u (pX5_prepare F p2 p3 p4 u) := by
  refine ctV_of (own := RX5) (cc := cX5_prepare) (n := 6) (ret := none) (by decide) rfl rfl (Nat.le_of_ble_eq_true rfl) (lv := [(0, .ref (ad 6)), (1, .ref (ad 1)), (2, .int p2), (3, .int p3), (4, .int p4)]) rfl (fun C => ?_)
  have iX0 : ∀ w ∈ wsX00, w ∈ wsX5_prepare := fun w h => List.mem_cons_of_mem _ (List.mem_append_right _ (inlX0 w h))
  have iX5 : ∀ w ∈ wsX50, w ∈ wsX5_prepare := fun w h => List.mem_cons_of_mem _ (List.mem_append_right _ (inlX5 w h))
  rw [pX5_prepare]
  refine g_iconst C 0 0 dX5_prepare_0 rfl ?_
  refine g_istore C 1 [(5, .int 0), (0, .ref (ad 6)), (1, .ref (ad 1)), (2, .int p2), (3, .int p3), (4, .int p4)] dX5_prepare_1 (by decide) rfl ?_
  refine g_jn0 69 ([(0, .ref (ad 6)), (1, .ref (ad 1)), (3, .int p3), (4, .int p4)]) ([]) (fun u1 => ?_) (fun J69 hJ69 => ?_)
  · skip
    rw [jX5_prepare_69]
    refine g_aload_n C 69 0 dX5_prepare_69 rfl ?_
    refine g_aload_n C 70 1 dX5_prepare_70 rfl ?_
    refine gfX_X0_habit 0 (by decide) C 71 iX0 (List.mem_cons_of_mem _ (List.mem_append_right _ wgL_25_20.1)) dX5_prepare_71 ?_
    refine g_iload_n C 74 2 dX5_prepare_74 rfl ?_
    refine g_iald C 75 (10 + 7) 0 (wX_arr 7 (by decide)) rfl dX5_prepare_75 ?_
    refine pfX_X5_habit C 76 iX5 (List.mem_cons_of_mem _ (List.mem_append_right _ wgL_4_12.1)) dX5_prepare_76 (fun u2 => ?_)
    refine g_aload_n C 79 0 dX5_prepare_79 rfl ?_
    refine g_aload_n C 80 1 dX5_prepare_80 rfl ?_
    refine gfX_X0_slow 0 (by decide) C 81 iX0 (List.mem_cons_of_mem _ (List.mem_append_right _ wgL_25_21.1)) dX5_prepare_81 ?_
    refine g_iload_n C 84 2 dX5_prepare_84 rfl ?_
    refine g_iald C 85 (10 + 8) 0 (wX_arr 8 (by decide)) rfl dX5_prepare_85 ?_
    refine pfX_X5_slow C 86 iX5 (List.mem_cons_of_mem _ (List.mem_append_right _ wgL_4_13.1)) dX5_prepare_86 (fun u3 => ?_)
    refine g_iconst C 89 0 dX5_prepare_89 rfl ?_
    refine g_istore C 90 [(5, .int 0), (0, .ref (ad 6)), (1, .ref (ad 1)), (3, .int p3), (4, .int p4)] dX5_prepare_90 (by decide) rfl ?_
    refine g_jn0 116 ([(0, .ref (ad 6)), (1, .ref (ad 1)), (4, .int p4)]) ([]) (fun u4 => ?_) (fun J116 hJ116 => ?_)
    · skip
      rw [jX5_prepare_116]
      refine g_iconst C 116 0 dX5_prepare_116 rfl ?_
      refine g_istore C 117 [(5, .int 0), (0, .ref (ad 6)), (1, .ref (ad 1)), (4, .int p4)] dX5_prepare_117 (by decide) rfl ?_
      refine g_sub _ [1, 2, 3, 0] rfl ?_
      refine g_lq1 (fun (x5 : Int32) => [(0, .ref (ad 6)), (1, .ref (ad 1)), (4, .int p4), (5, .int x5)]) (fun self7 hself7 x5 u6 => ?_) F 0 u4
      rw [bX5_prepare_119]
      refine g_iload C 119 3 dX5_prepare_119 rfl ?_
      refine g_aload_n C 121 1 dX5_prepare_121 rfl ?_
      refine gfX_X0_draughts 0 (by decide) C 122 iX0 (List.mem_cons_of_mem _ (List.mem_append_right _ wgL_25_22.1)) dX5_prepare_122 ?_
      refine g_icmp_ge C 125 162 dX5_prepare_125 (by decide) ?_ ?_
      · skip
        exact g_vret C 162 dX5_prepare_162
      · skip
        refine g_iload C 128 2 dX5_prepare_128 rfl ?_
        refine g_iload C 130 3 dX5_prepare_130 rfl ?_
        refine g_ishr C 132 dX5_prepare_132 ?_
        refine g_iconst C 133 1 dX5_prepare_133 rfl ?_
        refine g_iand C 134 dX5_prepare_134 ?_
        refine g_jn0 156 ([(0, .ref (ad 6)), (1, .ref (ad 1)), (4, .int p4), (5, .int x5)]) ([]) (fun u8 => ?_) (fun J156 hJ156 => ?_)
        · skip
          refine g_iinc C 156 3 [(5, .int (x5 + 1)), (0, .ref (ad 6)), (1, .ref (ad 1)), (4, .int p4)] dX5_prepare_156 rfl rfl (by decide) rfl ?_
          refine g_goto C 159 119 dX5_prepare_159 (by decide) ?_
          exact g_sub _ [1, 2, 3, 0] rfl (hself7 (x5 + 1) u8)
        · skip
          refine g_if_ne C 135 156 dX5_prepare_135 (by decide) ?_ ?_
          · skip
            exact g_sub _ [0, 1, 2, 3] rfl (hJ156 u6)
          · skip
            refine g_aload_n C 138 0 dX5_prepare_138 rfl ?_
            refine g_aload_n C 139 1 dX5_prepare_139 rfl ?_
            refine gfX_X0_minute 0 (by decide) C 140 iX0 (List.mem_cons_of_mem _ (List.mem_append_right _ wgL_25_23.1)) dX5_prepare_140 ?_
            refine g_iload C 143 3 dX5_prepare_143 rfl ?_
            refine g_iald C 145 (10 + 9) 0 (wX_arr 9 (by decide)) rfl dX5_prepare_145 ?_
            refine g_aload_n C 146 1 dX5_prepare_146 rfl ?_
            refine gfX_X0_strength 0 (by decide) C 147 iX0 (List.mem_cons_of_mem _ (List.mem_append_right _ wgL_26_0.1)) dX5_prepare_147 ?_
            refine g_iload C 150 3 dX5_prepare_150 rfl ?_
            refine g_iald C 152 (10 + 10) 0 (wX_arr 10 (by decide)) rfl dX5_prepare_152 ?_
            refine g_callVv (st := []) (As := [.int (u6.2 9 (Int32.toNatClampNeg x5)), .int (u6.2 10 (Int32.toNatClampNeg x5))]) C EX_ok EX_vm 153 6 2 (tX5_blows F (u6.2 9 (Int32.toNatClampNeg x5)) (u6.2 10 (Int32.toNatClampNeg x5)) u6) rfl gX5_prepare_X5_blows rfl rfl rfl (by decide +kernel) ⟨Nat.le_of_ble_eq_true rfl, Nat.le_of_ble_eq_true rfl⟩ rfl rfl rfl (Nat.le_of_ble_eq_true rfl) dX5_prepare_153 (fun u9 => ?_)
            exact g_sub _ [0, 1, 2, 3] rfl (hJ156 u9)
    · skip
      refine g_sub _ [1, 2, 4, 0] rfl ?_
      refine g_lq1 (fun (x10 : Int32) => [(0, .ref (ad 6)), (1, .ref (ad 1)), (4, .int p4), (5, .int x10)]) (fun self12 hself12 x10 u11 => ?_) F 0 u3
      rw [bX5_prepare_92]
      refine g_iload C 92 3 dX5_prepare_92 rfl ?_
      refine g_aload_n C 94 0 dX5_prepare_94 rfl ?_
      refine gfX_X5_strongest C 95 iX5 (List.mem_cons_of_mem _ (List.mem_append_right _ wgL_4_11.1)) dX5_prepare_95 ?_
      refine g_alen C 98 (10 + 58) 0 (wX_arr 58 (by decide)) rfl dX5_prepare_98 ?_
      refine g_icmp_ge C 99 116 dX5_prepare_99 (by decide) ?_ ?_
      · skip
        exact g_sub _ [0, 1, 2] rfl (hJ116 u11)
      · skip
        refine g_aload_n C 102 0 dX5_prepare_102 rfl ?_
        refine gfX_X5_strongest C 103 iX5 (List.mem_cons_of_mem _ (List.mem_append_right _ wgL_4_11.1)) dX5_prepare_103 ?_
        refine g_iload C 106 3 dX5_prepare_106 rfl ?_
        refine g_iconst C 108 0 dX5_prepare_108 rfl ?_
        refine g_iast C 109 (10 + 58) 0 58 (wX_arr 58 (by decide)) (wX_aset 58 (by decide)) rfl dX5_prepare_109 (fun u13 => ?_)
        refine g_iinc C 110 3 [(5, .int (x10 + 1)), (0, .ref (ad 6)), (1, .ref (ad 1)), (4, .int p4)] dX5_prepare_110 rfl rfl (by decide) rfl ?_
        refine g_goto C 113 92 dX5_prepare_113 (by decide) ?_
        exact g_sub _ [1, 2, 3, 0] rfl (hself12 (x10 + 1) u13)
  · skip
    refine g_sub _ [1, 2, 3, 4, 5, 0] rfl ?_
    refine g_lq1 (fun (x14 : Int32) => [(0, .ref (ad 6)), (1, .ref (ad 1)), (2, .int p2), (3, .int p3), (4, .int p4), (5, .int x14)]) (fun self16 hself16 x14 u15 => ?_) F 0 u
    rw [bX5_prepare_3]
    refine g_iload C 3 5 dX5_prepare_3 rfl ?_
    refine g_iconst C 5 2 dX5_prepare_5 rfl ?_
    refine g_icmp_ge C 6 69 dX5_prepare_6 (by decide) ?_ ?_
    · skip
      exact g_sub _ [0, 1, 3, 4] rfl (hJ69 u15)
    · skip
      refine g_aload_n C 9 0 dX5_prepare_9 rfl ?_
      refine gfX_X5_kind C 10 iX5 (List.mem_cons_of_mem _ (List.mem_append_right _ wgL_4_8.1)) dX5_prepare_10 ?_
      refine g_iload C 13 5 dX5_prepare_13 rfl ?_
      refine g_aload_n C 15 1 dX5_prepare_15 rfl ?_
      refine gfX_X0_kind 0 (by decide) C 16 iX0 (List.mem_cons_of_mem _ (List.mem_append_right _ wgL_25_17.1)) dX5_prepare_16 ?_
      refine g_iconst C 19 2 dX5_prepare_19 rfl ?_
      refine g_iload_n C 20 2 dX5_prepare_20 rfl ?_
      refine g_imul C 21 dX5_prepare_21 ?_
      refine g_iload C 22 5 dX5_prepare_22 rfl ?_
      refine g_iadd C 24 dX5_prepare_24 ?_
      refine g_iald C 25 (10 + 0) 0 (wX_arr 0 (by decide)) rfl dX5_prepare_25 ?_
      refine g_iast C 26 (10 + 55) 0 55 (wX_arr 55 (by decide)) (wX_aset 55 (by decide)) rfl dX5_prepare_26 (fun u17 => ?_)
      refine g_aload_n C 27 0 dX5_prepare_27 rfl ?_
      refine gfX_X5_length C 28 iX5 (List.mem_cons_of_mem _ (List.mem_append_right _ wgL_4_9.1)) dX5_prepare_28 ?_
      refine g_iload C 31 5 dX5_prepare_31 rfl ?_
      refine g_aload_n C 33 1 dX5_prepare_33 rfl ?_
      refine gfX_X0_length 0 (by decide) C 34 iX0 (List.mem_cons_of_mem _ (List.mem_append_right _ wgL_25_18.1)) dX5_prepare_34 ?_
      refine g_iconst C 37 2 dX5_prepare_37 rfl ?_
      refine g_iload_n C 38 2 dX5_prepare_38 rfl ?_
      refine g_imul C 39 dX5_prepare_39 ?_
      refine g_iload C 40 5 dX5_prepare_40 rfl ?_
      refine g_iadd C 42 dX5_prepare_42 ?_
      refine g_iald C 43 (10 + 1) 0 (wX_arr 1 (by decide)) rfl dX5_prepare_43 ?_
      refine g_iast C 44 (10 + 56) 0 56 (wX_arr 56 (by decide)) (wX_aset 56 (by decide)) rfl dX5_prepare_44 (fun u18 => ?_)
      refine g_aload_n C 45 0 dX5_prepare_45 rfl ?_
      refine gfX_X5_guard C 46 iX5 (List.mem_cons_of_mem _ (List.mem_append_right _ wgL_4_10.1)) dX5_prepare_46 ?_
      refine g_iload C 49 5 dX5_prepare_49 rfl ?_
      refine g_aload_n C 51 1 dX5_prepare_51 rfl ?_
      refine gfX_X0_guard 0 (by decide) C 52 iX0 (List.mem_cons_of_mem _ (List.mem_append_right _ wgL_25_19.1)) dX5_prepare_52 ?_
      refine g_iconst C 55 2 dX5_prepare_55 rfl ?_
      refine g_iload_n C 56 2 dX5_prepare_56 rfl ?_
      refine g_imul C 57 dX5_prepare_57 ?_
      refine g_iload C 58 5 dX5_prepare_58 rfl ?_
      refine g_iadd C 60 dX5_prepare_60 ?_
      refine g_iald C 61 (10 + 2) 0 (wX_arr 2 (by decide)) rfl dX5_prepare_61 ?_
      refine g_iast C 62 (10 + 57) 0 57 (wX_arr 57 (by decide)) (wX_aset 57 (by decide)) rfl dX5_prepare_62 (fun u19 => ?_)
      refine g_iinc C 63 5 [(5, .int (x14 + 1)), (0, .ref (ad 6)), (1, .ref (ad 1)), (2, .int p2), (3, .int p3), (4, .int p4)] dX5_prepare_63 rfl rfl (by decide) rfl ?_
      refine g_goto C 66 3 dX5_prepare_66 (by decide) ?_
      exact g_sub _ [1, 2, 3, 4, 5, 0] rfl (hself16 (x14 + 1) u19)
def pX6_prepare (F : Nat) (p1 : Int32) (p2 : Int32) (p3 : Int32) (u : St) : Option (Unit × St) :=
  bd (pX5_prepare F p1 p2 p3 u) (fun (_ : Unit) (u1 : St) => some ((), u1))
set_option maxRecDepth 100000 in
set_option maxHeartbeats 4000000 in
theorem tX6_prepare {l : Launch} {D : va_G} {cI cZ : ClassId} {ad : Nat → Nat} {tBURNS tFLAME_BOUNDS : Nat} {tS : Option Nat} {adK adV : Nat → Nat} (F : Nat) (p1 : Int32) (p2 : Int32) (p3 : Int32) (u : St) : CtV l D [(cI, .int), (cZ, .boolean)] (wX ad cI cZ) (EX tBURNS tFLAME_BOUNDS tS adK adV) yX6_prepare wsX6_prepare ({ frames := 3, cells := 0, slots := 0, locals := 62 } : Room) [.ref (ad 0), .int p1, .int p2, .int p3] u (pX6_prepare F p1 p2 p3 u) := by
  refine ctV_of (own := RX6) (cc := cX6_prepare) (n := 4) (ret := none) (by decide) rfl rfl (Nat.le_of_ble_eq_true rfl) (lv := [(0, .ref (ad 0)), (1, .int p1), (2, .int p2), (3, .int p3)]) rfl (fun C => ?_)
  have iX6 : ∀ w ∈ wsX60, w ∈ wsX6_prepare := fun w h => List.mem_cons_of_mem _ (List.mem_append_right _ (inlX6 w h))
  rw [pX6_prepare]
  refine g_aload_n C 0 0 dX6_prepare_0 rfl ?_
  refine gfX_X6_trial C 1 iX6 (List.mem_cons_of_mem _ (List.mem_append_right _ wgL_2_3.1)) dX6_prepare_1 ?_
  refine g_aload_n C 4 0 dX6_prepare_4 rfl ?_
  refine gfX_X6_court C 5 iX6 (List.mem_cons_of_mem _ (List.mem_append_right _ wgL_1_15.1)) dX6_prepare_5 ?_
  refine g_iload_n C 8 1 dX6_prepare_8 rfl ?_
  refine g_iload_n C 9 2 dX6_prepare_9 rfl ?_
  refine g_iload_n C 10 3 dX6_prepare_10 rfl ?_
  refine g_callVv (st := []) (As := [.ref (ad 1), .int p1, .int p2, .int p3]) C EX_ok EX_vm 11 6 4 (tX5_prepare F p1 p2 p3 u) rfl gX6_prepare_X5_prepare rfl rfl rfl (by decide +kernel) ⟨Nat.le_of_ble_eq_true rfl, Nat.le_of_ble_eq_true rfl⟩ rfl rfl rfl (Nat.le_of_ble_eq_true rfl) dX6_prepare_11 (fun u1 => ?_)
  exact g_vret C 14 dX6_prepare_14
def pX5_burnsStill (F : Nat) (p1 : Int32) (u : St) : Option (Int32 × St) :=
  gd (inb p1 2) (if (u.2 56 (Int32.toNatClampNeg p1)) ≤ 0 then some (0, u) else gd (inb p1 2) (gd (inb (u.1 26) 21) (if (u.2 57 (Int32.toNatClampNeg p1)) < (u.2 58 (Int32.toNatClampNeg (u.1 26))) then some (0, u) else some (1, u))))
set_option maxRecDepth 100000 in
set_option maxHeartbeats 4000000 in
theorem tX5_burnsStill {l : Launch} {D : va_G} {cI cZ : ClassId} {ad : Nat → Nat} {tBURNS tFLAME_BOUNDS : Nat} {tS : Option Nat} {adK adV : Nat → Nat} (F : Nat) (p1 : Int32) (u : St) : CtI l D [(cI, .int), (cZ, .boolean)] (wX ad cI cZ) (EX tBURNS tFLAME_BOUNDS tS adK adV) yX5_burnsStill wsX5_burnsStill ({ frames := 0, cells := 0, slots := 0, locals := 0 } : Room) [.ref (ad 6), .int p1] u (pX5_burnsStill F p1 u) := by
  refine ctI_of (own := RX5) (cc := cX5_burnsStill) (n := 2) (ret := (some .boolean)) (by decide) rfl rfl (Nat.le_of_ble_eq_true rfl) (lv := [(0, .ref (ad 6)), (1, .int p1)]) rfl (fun C => ?_)
  have iX5 : ∀ w ∈ wsX50, w ∈ wsX5_burnsStill := fun w h => List.mem_cons_of_mem _ (List.mem_append_right _ (inlX5 w h))
  rw [pX5_burnsStill]
  refine g_aload_n C 0 0 dX5_burnsStill_0 rfl ?_
  refine gfX_X5_length C 1 iX5 (List.mem_cons_of_mem _ (List.mem_append_right _ wgL_4_9.1)) dX5_burnsStill_1 ?_
  refine g_iload_n C 4 1 dX5_burnsStill_4 rfl ?_
  refine g_iald C 5 (10 + 56) 0 (wX_arr 56 (by decide)) rfl dX5_burnsStill_5 ?_
  refine g_if_le C 6 31 dX5_burnsStill_6 (by decide) ?_ ?_
  · skip
    refine g_iconst C 31 0 dX5_burnsStill_31 rfl ?_
    exact g_nret C 32 rfl dX5_burnsStill_32
  · skip
    refine g_aload_n C 9 0 dX5_burnsStill_9 rfl ?_
    refine gfX_X5_guard C 10 iX5 (List.mem_cons_of_mem _ (List.mem_append_right _ wgL_4_10.1)) dX5_burnsStill_10 ?_
    refine g_iload_n C 13 1 dX5_burnsStill_13 rfl ?_
    refine g_iald C 14 (10 + 57) 0 (wX_arr 57 (by decide)) rfl dX5_burnsStill_14 ?_
    refine g_aload_n C 15 0 dX5_burnsStill_15 rfl ?_
    refine gfX_X5_strongest C 16 iX5 (List.mem_cons_of_mem _ (List.mem_append_right _ wgL_4_11.1)) dX5_burnsStill_16 ?_
    refine g_aload_n C 19 0 dX5_burnsStill_19 rfl ?_
    refine gfX_X5_minute C 20 iX5 (List.mem_cons_of_mem _ (List.mem_append_right _ wgL_4_14.1)) dX5_burnsStill_20 ?_
    refine g_iald C 23 (10 + 58) 0 (wX_arr 58 (by decide)) rfl dX5_burnsStill_23 ?_
    refine g_icmp_lt C 24 31 dX5_burnsStill_24 (by decide) ?_ ?_
    · skip
      refine g_iconst C 31 0 dX5_burnsStill_31 rfl ?_
      exact g_nret C 32 rfl dX5_burnsStill_32
    · skip
      refine g_iconst C 27 1 dX5_burnsStill_27 rfl ?_
      refine g_goto C 28 32 dX5_burnsStill_28 (by decide) ?_
      exact g_nret C 32 rfl dX5_burnsStill_32
def pX5_goesTo (F : Nat)  (u : St) : Option (Int32 × St) :=
  gd (inb 1 2) (gd (inb 0 2) (jn (fun (a1 : Int32) (u2 : St) => if (u2.1 24) = 1 then some (a1, u2) else if (u2.1 24) = 2 then some ((1 - a1), u2) else if (u2.1 24) = 3 then gd (inb 1 2) (gd (inb 0 2) (if (u2.2 57 (Int32.toNatClampNeg 0)) ≤ (u2.2 57 (Int32.toNatClampNeg 1)) then some (0, u2) else some (1, u2))) else some (0, u2)) (fun (J20 : Int32 → St → Option (Int32 × St)) => if (u.2 56 (Int32.toNatClampNeg 1)) ≤ (u.2 56 (Int32.toNatClampNeg 0)) then (J20 0 u) else (J20 1 u))))
set_option maxRecDepth 100000 in
set_option maxHeartbeats 4000000 in
theorem tX5_goesTo {l : Launch} {D : va_G} {cI cZ : ClassId} {ad : Nat → Nat} {tBURNS tFLAME_BOUNDS : Nat} {tS : Option Nat} {adK adV : Nat → Nat} (F : Nat)  (u : St) : CtI l D [(cI, .int), (cZ, .boolean)] (wX ad cI cZ) (EX tBURNS tFLAME_BOUNDS tS adK adV) yX5_goesTo wsX5_goesTo ({ frames := 0, cells := 0, slots := 0, locals := 0 } : Room) [.ref (ad 6)] u (pX5_goesTo F u) := by
  refine ctI_of (own := RX5) (cc := cX5_goesTo) (n := 2) (ret := (some .int)) (by decide) rfl rfl (Nat.le_of_ble_eq_true rfl) (lv := [(0, .ref (ad 6))]) rfl (fun C => ?_)
  have iX5 : ∀ w ∈ wsX50, w ∈ wsX5_goesTo := fun w h => List.mem_cons_of_mem _ (List.mem_append_right _ (inlX5 w h))
  rw [pX5_goesTo]
  refine g_aload_n C 0 0 dX5_goesTo_0 rfl ?_
  refine gfX_X5_length C 1 iX5 (List.mem_cons_of_mem _ (List.mem_append_right _ wgL_4_9.1)) dX5_goesTo_1 ?_
  refine g_iconst C 4 1 dX5_goesTo_4 rfl ?_
  refine g_iald C 5 (10 + 56) 0 (wX_arr 56 (by decide)) rfl dX5_goesTo_5 ?_
  refine g_aload_n C 6 0 dX5_goesTo_6 rfl ?_
  refine gfX_X5_length C 7 iX5 (List.mem_cons_of_mem _ (List.mem_append_right _ wgL_4_9.1)) dX5_goesTo_7 ?_
  refine g_iconst C 10 0 dX5_goesTo_10 rfl ?_
  refine g_iald C 11 (10 + 56) 0 (wX_arr 56 (by decide)) rfl dX5_goesTo_11 ?_
  refine g_jn1 20 (fun (a1 : Int32) => [(0, .ref (ad 6))]) (fun (a1 : Int32) => [.int a1]) (fun a1 u2 => ?_) (fun J20 hJ20 => ?_)
  · skip
    refine g_istore_n C 20 [(1, .int a1), (0, .ref (ad 6))] dX5_goesTo_20 (by decide) rfl ?_
    refine g_aload_n C 21 1 dX5_goesTo_21 rfl ?_
    refine gfX_X5_habit C 22 iX5 (List.mem_cons_of_mem _ (List.mem_append_right _ wgL_4_12.1)) dX5_goesTo_22 ?_
    refine g_tsw C 25 52 1 dX5_goesTo_25 (by decide) rfl (by decide) ?_ (fun q1 => ?_)
    · skip
      refine g_iload_n C 52 0 dX5_goesTo_52 rfl ?_
      exact g_iret C 53 dX5_goesTo_53
    refine g_tsw C 25 54 2 dX5_goesTo_25 (by decide) rfl (by decide) ?_ (fun q2 => ?_)
    · skip
      refine g_iconst C 54 1 dX5_goesTo_54 rfl ?_
      refine g_iload_n C 55 0 dX5_goesTo_55 rfl ?_
      refine g_isub C 56 dX5_goesTo_56 ?_
      exact g_iret C 57 dX5_goesTo_57
    refine g_tsw C 25 58 3 dX5_goesTo_25 (by decide) rfl (by decide) ?_ (fun q3 => ?_)
    · skip
      refine g_aload_n C 58 1 dX5_goesTo_58 rfl ?_
      refine gfX_X5_guard C 59 iX5 (List.mem_cons_of_mem _ (List.mem_append_right _ wgL_4_10.1)) dX5_goesTo_59 ?_
      refine g_iconst C 62 1 dX5_goesTo_62 rfl ?_
      refine g_iald C 63 (10 + 57) 0 (wX_arr 57 (by decide)) rfl dX5_goesTo_63 ?_
      refine g_aload_n C 64 1 dX5_goesTo_64 rfl ?_
      refine gfX_X5_guard C 65 iX5 (List.mem_cons_of_mem _ (List.mem_append_right _ wgL_4_10.1)) dX5_goesTo_65 ?_
      refine g_iconst C 68 0 dX5_goesTo_68 rfl ?_
      refine g_iald C 69 (10 + 57) 0 (wX_arr 57 (by decide)) rfl dX5_goesTo_69 ?_
      refine g_icmp_ge C 70 77 dX5_goesTo_70 (by decide) ?_ ?_
      · skip
        refine g_iconst C 77 0 dX5_goesTo_77 rfl ?_
        exact g_iret C 78 dX5_goesTo_78
      · skip
        refine g_iconst C 73 1 dX5_goesTo_73 rfl ?_
        refine g_goto C 74 78 dX5_goesTo_74 (by decide) ?_
        exact g_iret C 78 dX5_goesTo_78
    refine g_tswD C 25 79 dX5_goesTo_25 (by have r1 := lv_neT (a := 1) q1 rfl; have r2 := lv_neT (a := 2) q2 rfl; have r3 := lv_neT (a := 3) q3 rfl; omega) (by decide) ?_
    refine g_iconst C 79 0 dX5_goesTo_79 rfl ?_
    exact g_iret C 80 dX5_goesTo_80
  · skip
    refine g_icmp_le C 12 19 dX5_goesTo_12 (by decide) ?_ ?_
    · skip
      refine g_iconst C 19 0 dX5_goesTo_19 rfl ?_
      exact g_sub _ [0] rfl (hJ20 0 u)
    · skip
      refine g_iconst C 15 1 dX5_goesTo_15 rfl ?_
      refine g_goto C 16 20 dX5_goesTo_16 (by decide) ?_
      exact g_sub _ [0] rfl (hJ20 1 u)
