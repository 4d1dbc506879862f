def bX6_winsWhateverTheOther_2 (F : Nat) (p1 : Int32) (p2 : Int32) (self3 : Int32 → St → Option (Int32 × St)) (x1 : Int32) (u2 : St) : Option (Int32 × St) :=
  if 10 ≤ x1 then some (1, u2) else jn (fun (a4 : Int32) (u5 : St) => gd (inb a4 100) (if (u5.2 52 (Int32.toNatClampNeg a4)) = (p1 + 1) then (self3 (x1 + 1) u5) else some (0, u5))) (fun (J27 : Int32 → St → Option (Int32 × St)) => if p1 = 0 then (J27 ((10 * p2) + x1) u2) else (J27 ((10 * x1) + p2) u2))
def pX6_winsWhateverTheOther (F : Nat) (p1 : Int32) (p2 : Int32) (u : St) : Option (Int32 × St) :=
  (lq1 (bX6_winsWhateverTheOther_2 F p1 p2) F 0 u)
set_option maxRecDepth 100000 in
set_option maxHeartbeats 4000000 in
theorem tX6_winsWhateverTheOther {l : Launch} {D : va_G} {cI cZ : ClassId} {ad : Nat → Nat} {tBURNS tFLAME_BOUNDS : Nat} {tS : Option Nat} {adK adV : Nat → Nat} (F : Nat) (p1 : Int32) (p2 : Int32) (u : St) : CtI l D [(cI, .int), (cZ, .boolean)] (wX ad cI cZ) (EX tBURNS tFLAME_BOUNDS tS adK adV) yX6_winsWhateverTheOther wsX6_winsWhateverTheOther ({ frames := 0, cells := 0, slots := 0, locals := 0 } : Room) [.ref (ad 0), .int p1, .int p2] u (pX6_winsWhateverTheOther F p1 p2 u) := by
  refine ctI_of (own := RX6) (cc := cX6_winsWhateverTheOther) (n := 5) (ret := (some .boolean)) (by decide) rfl rfl (Nat.le_of_ble_eq_true rfl) (lv := [(0, .ref (ad 0)), (1, .int p1), (2, .int p2)]) rfl (fun C => ?_)
  have iX6 : ∀ w ∈ wsX60, w ∈ wsX6_winsWhateverTheOther := fun w h => List.mem_cons_of_mem _ (List.mem_append_right _ (inlX6 w h))
  rw [pX6_winsWhateverTheOther]
  refine g_iconst C 0 0 dX6_winsWhateverTheOther_0 rfl ?_
  refine g_istore_n C 1 [(3, .int 0), (0, .ref (ad 0)), (1, .int p1), (2, .int p2)] dX6_winsWhateverTheOther_1 (by decide) rfl ?_
  refine g_sub _ [1, 2, 3, 0] rfl ?_
  refine g_lq1 (fun (x1 : Int32) => [(0, .ref (ad 0)), (1, .int p1), (2, .int p2), (3, .int x1)]) (fun self3 hself3 x1 u2 => ?_) F 0 u
  rw [bX6_winsWhateverTheOther_2]
  refine g_iload_n C 2 3 dX6_winsWhateverTheOther_2 rfl ?_
  refine g_bipush C 3 10 dX6_winsWhateverTheOther_3 rfl ?_
  refine g_icmp_ge C 5 50 dX6_winsWhateverTheOther_5 (by decide) ?_ ?_
  · skip
    refine g_iconst C 50 1 dX6_winsWhateverTheOther_50 rfl ?_
    exact g_nret C 51 rfl dX6_winsWhateverTheOther_51
  · skip
    refine g_iload_n C 8 1 dX6_winsWhateverTheOther_8 rfl ?_
    refine g_jn1 27 (fun (a4 : Int32) => [(0, .ref (ad 0)), (1, .int p1), (2, .int p2), (3, .int x1)]) (fun (a4 : Int32) => [.int a4]) (fun a4 u5 => ?_) (fun J27 hJ27 => ?_)
    · skip
      refine g_istore C 27 [(4, .int a4), (0, .ref (ad 0)), (1, .int p1), (2, .int p2), (3, .int x1)] dX6_winsWhateverTheOther_27 (by decide) rfl ?_
      refine g_aload_n C 29 1 dX6_winsWhateverTheOther_29 rfl ?_
      refine gfX_X6_verdictsByGuards C 30 iX6 (List.mem_cons_of_mem _ (List.mem_append_right _ wgL_2_17.1)) dX6_winsWhateverTheOther_30 ?_
      refine g_iload C 33 0 dX6_winsWhateverTheOther_33 rfl ?_
      refine g_iald C 35 (10 + 52) 0 (wX_arr 52 (by decide)) rfl dX6_winsWhateverTheOther_35 ?_
      refine g_iload_n C 36 2 dX6_winsWhateverTheOther_36 rfl ?_
      refine g_iconst C 37 1 dX6_winsWhateverTheOther_37 rfl ?_
      refine g_iadd C 38 dX6_winsWhateverTheOther_38 ?_
      refine g_icmp_eq C 39 44 dX6_winsWhateverTheOther_39 (by decide) ?_ ?_
      · skip
        refine g_iinc C 44 4 [(3, .int (x1 + 1)), (4, .int a4), (0, .ref (ad 0)), (1, .int p1), (2, .int p2)] dX6_winsWhateverTheOther_44 rfl rfl (by decide) rfl ?_
        refine g_goto C 47 2 dX6_winsWhateverTheOther_47 (by decide) ?_
        exact g_sub _ [2, 3, 4, 0] rfl (hself3 (x1 + 1) u5)
      · skip
        refine g_iconst C 42 0 dX6_winsWhateverTheOther_42 rfl ?_
        exact g_nret C 43 rfl dX6_winsWhateverTheOther_43
    · skip
      refine g_if_ne C 9 21 dX6_winsWhateverTheOther_9 (by decide) ?_ ?_
      · skip
        refine g_bipush C 21 10 dX6_winsWhateverTheOther_21 rfl ?_
        refine g_iload_n C 23 3 dX6_winsWhateverTheOther_23 rfl ?_
        refine g_imul C 24 dX6_winsWhateverTheOther_24 ?_
        refine g_iload_n C 25 2 dX6_winsWhateverTheOther_25 rfl ?_
        refine g_iadd C 26 dX6_winsWhateverTheOther_26 ?_
        exact g_sub _ [0, 1, 2, 3] rfl (hJ27 ((10 * x1) + p2) u2)
      · skip
        refine g_bipush C 12 10 dX6_winsWhateverTheOther_12 rfl ?_
        refine g_iload_n C 14 2 dX6_winsWhateverTheOther_14 rfl ?_
        refine g_imul C 15 dX6_winsWhateverTheOther_15 ?_
        refine g_iload_n C 16 3 dX6_winsWhateverTheOther_16 rfl ?_
        refine g_iadd C 17 dX6_winsWhateverTheOther_17 ?_
        refine g_goto C 18 27 dX6_winsWhateverTheOther_18 (by decide) ?_
        exact g_sub _ [0, 1, 2, 3] rfl (hJ27 ((10 * p2) + x1) u2)
def bX6_sure_31 (F : Nat) (p2 : Int32) (self8 : Int32 → St → Option (Int32 × St)) (x6 : Int32) (u7 : St) : Option (Int32 × St) :=
  if 10 ≤ x6 then some ((-4), u7) else bd (pX6_winsWhateverTheOther F p2 x6 u7) (fun (r10 : Int32) (u9 : St) => if r10 = 0 then (self8 (x6 + 1) u9) else some (x6, u9))
def pX6_sure (F : Nat) (p1 : Int32) (p2 : Int32) (p3 : Int32) (u : St) : Option (Int32 × St) :=
  bd (pX6_isFlame F p1 p2 u) (fun (r2 : Int32) (u1 : St) => if r2 = 0 then some ((-1), u1) else bd (pX0_hasJudge F 0 p3 u1) (fun (r4 : Int32) (u3 : St) => if r4 = 0 then some ((-1), u3) else bd (pX6_fillVerdictsByGuards F p1 p3 u3) (fun (_ : Unit) (u5 : St) => (lq1 (bX6_sure_31 F p2) F 0 u5))))
set_option maxRecDepth 100000 in
set_option maxHeartbeats 4000000 in
theorem tX6_sure {l : Launch} {D : va_G} {cI cZ : ClassId} {ad : Nat → Nat} {tBURNS tFLAME_BOUNDS : Nat} {tS : Option Nat} {adK adV : Nat → Nat} (F : Nat) (p1 : Int32) (p2 : Int32) (p3 : Int32) (u : St) : CtI l D [(cI, .int), (cZ, .boolean)] (wX ad cI cZ) (EX tBURNS tFLAME_BOUNDS tS adK adV) yX6_sure wsX6_sure ({ frames := 5, cells := 0, slots := 0, locals := 108 } : Room) [.ref (ad 0), .int p1, .int p2, .int p3] u (pX6_sure F p1 p2 p3 u) := by
  refine ctI_of (own := RX6) (cc := cX6_sure) (n := 5) (ret := (some .int)) (by decide) rfl rfl (Nat.le_of_ble_eq_true rfl) (lv := [(0, .ref (ad 0)), (1, .int p1), (2, .int p2), (3, .int p3)]) rfl (fun C => ?_)
  have iX6 : ∀ w ∈ wsX60, w ∈ wsX6_sure := fun w h => List.mem_cons_of_mem _ (List.mem_append_right _ (inlX6 w h))
  rw [pX6_sure]
  refine g_aload_n C 0 0 dX6_sure_0 rfl ?_
  refine g_iload_n C 1 1 dX6_sure_1 rfl ?_
  refine g_iload_n C 2 2 dX6_sure_2 rfl ?_
  refine g_callVi (st := []) (As := [.int p1, .int p2]) C EX_ok EX_vm 3 0 2 (tX6_isFlame F p1 p2 u) rfl gX6_sure_X6_isFlame rfl rfl rfl (by decide +kernel) ⟨Nat.le_of_ble_eq_true rfl, Nat.le_of_ble_eq_true rfl⟩ rfl rfl rfl (Nat.le_of_ble_eq_true rfl) dX6_sure_3 (fun r2 u1 => ?_)
  refine g_if_eq C 6 20 dX6_sure_6 (by decide) ?_ ?_
  · skip
    refine g_iconst C 20 (-1) dX6_sure_20 rfl ?_
    exact g_iret C 21 dX6_sure_21
  · skip
    refine g_aload_n C 9 0 dX6_sure_9 rfl ?_
    refine gfX_X6_court C 10 iX6 (List.mem_cons_of_mem _ (List.mem_append_right _ wgL_1_15.1)) dX6_sure_10 ?_
    refine g_iload_n C 13 3 dX6_sure_13 rfl ?_
    refine g_callVi (st := []) (As := [.int p3]) C EX_ok EX_vm 14 1 1 (tX0_hasJudge F 0 (by decide) p3 u1) rfl gX6_sure_X0_hasJudge rfl rfl rfl (by decide +kernel) ⟨Nat.le_of_ble_eq_true rfl, Nat.le_of_ble_eq_true rfl⟩ (wX_X0 ad cI cZ _ 0 (by decide)) rfl rfl (Nat.le_of_ble_eq_true rfl) dX6_sure_14 (fun r4 u3 => ?_)
    refine g_if_ne C 17 22 dX6_sure_17 (by decide) ?_ ?_
    · skip
      refine g_aload_n C 22 0 dX6_sure_22 rfl ?_
      refine g_iload_n C 23 1 dX6_sure_23 rfl ?_
      refine g_iload_n C 24 3 dX6_sure_24 rfl ?_
      refine g_callVv (st := []) (As := [.int p1, .int p3]) C EX_ok EX_vm 25 0 2 (tX6_fillVerdictsByGuards F p1 p3 u3) rfl gX6_sure_X6_fillVerdictsByGuards rfl rfl rfl (by decide +kernel) ⟨Nat.le_of_ble_eq_true rfl, Nat.le_of_ble_eq_true rfl⟩ rfl rfl rfl (Nat.le_of_ble_eq_true rfl) dX6_sure_25 (fun u5 => ?_)
      refine g_iconst C 28 0 dX6_sure_28 rfl ?_
      refine g_istore C 29 [(4, .int 0), (0, .ref (ad 0)), (1, .int p1), (2, .int p2), (3, .int p3)] dX6_sure_29 (by decide) rfl ?_
      refine g_sub _ [1, 3, 0] rfl ?_
      refine g_lq1 (fun (x6 : Int32) => [(0, .ref (ad 0)), (2, .int p2), (4, .int x6)]) (fun self8 hself8 x6 u7 => ?_) F 0 u5
      rw [bX6_sure_31]
      refine g_iload C 31 2 dX6_sure_31 rfl ?_
      refine g_bipush C 33 10 dX6_sure_33 rfl ?_
      refine g_icmp_ge C 35 57 dX6_sure_35 (by decide) ?_ ?_
      · skip
        refine g_bipush C 57 (-4) dX6_sure_57 rfl ?_
        exact g_iret C 59 dX6_sure_59
      · skip
        refine g_aload_n C 38 0 dX6_sure_38 rfl ?_
        refine g_iload_n C 39 1 dX6_sure_39 rfl ?_
        refine g_iload C 40 2 dX6_sure_40 rfl ?_
        refine g_callVi (st := []) (As := [.int p2, .int x6]) C EX_ok EX_vm 42 0 2 (tX6_winsWhateverTheOther F p2 x6 u7) rfl gX6_sure_X6_winsWhateverTheOther rfl rfl rfl (by decide +kernel) ⟨Nat.le_of_ble_eq_true rfl, Nat.le_of_ble_eq_true rfl⟩ rfl rfl rfl (Nat.le_of_ble_eq_true rfl) dX6_sure_42 (fun r10 u9 => ?_)
        refine g_if_eq C 45 51 dX6_sure_45 (by decide) ?_ ?_
        · skip
          refine g_iinc C 51 2 [(4, .int (x6 + 1)), (0, .ref (ad 0)), (2, .int p2)] dX6_sure_51 rfl rfl (by decide) rfl ?_
          refine g_goto C 54 31 dX6_sure_54 (by decide) ?_
          exact g_sub _ [1, 2, 0] rfl (hself8 (x6 + 1) u9)
        · skip
          refine g_iload C 48 2 dX6_sure_48 rfl ?_
          exact g_iret C 50 dX6_sure_50
    · skip
      refine g_iconst C 20 (-1) dX6_sure_20 rfl ?_
      exact g_iret C 21 dX6_sure_21
def pX6_worth (F : Nat) (p1 : Int32) (p2 : Int32) (u : St) : Option (Int32 × St) :=
  if p1 = 3 then some (1, u) else if p1 = (p2 + 1) then some (2, u) else some (0, u)
set_option maxRecDepth 100000 in
set_option maxHeartbeats 4000000 in
theorem tX6_worth {l : Launch} {D : va_G} {cI cZ : ClassId} {ad : Nat → Nat} {tBURNS tFLAME_BOUNDS : Nat} {tS : Option Nat} {adK adV : Nat → Nat} (F : Nat) (p1 : Int32) (p2 : Int32) (u : St) : CtI l D [(cI, .int), (cZ, .boolean)] (wX ad cI cZ) (EX tBURNS tFLAME_BOUNDS tS adK adV) yX6_worth wsX6_worth ({ frames := 0, cells := 0, slots := 0, locals := 0 } : Room) [.int p1, .int p2] u (pX6_worth F p1 p2 u) := by
  refine ctI_of (own := RX6) (cc := cX6_worth) (n := 2) (ret := (some .int)) (by decide) rfl rfl (Nat.le_of_ble_eq_true rfl) (lv := [(0, .int p1), (1, .int p2)]) rfl (fun C => ?_)
  rw [pX6_worth]
  refine g_iload_n C 0 0 dX6_worth_0 rfl ?_
  refine g_iconst C 1 3 dX6_worth_1 rfl ?_
  refine g_icmp_ne C 2 7 dX6_worth_2 (by decide) ?_ ?_
  · skip
    refine g_iload_n C 7 0 dX6_worth_7 rfl ?_
    refine g_iload_n C 8 1 dX6_worth_8 rfl ?_
    refine g_iconst C 9 1 dX6_worth_9 rfl ?_
    refine g_iadd C 10 dX6_worth_10 ?_
    refine g_icmp_ne C 11 18 dX6_worth_11 (by decide) ?_ ?_
    · skip
      refine g_iconst C 18 0 dX6_worth_18 rfl ?_
      exact g_iret C 19 dX6_worth_19
    · skip
      refine g_iconst C 14 2 dX6_worth_14 rfl ?_
      refine g_goto C 15 19 dX6_worth_15 (by decide) ?_
      exact g_iret C 19 dX6_worth_19
  · skip
    refine g_iconst C 5 1 dX6_worth_5 rfl ?_
    exact g_iret C 6 dX6_worth_6
def bX6_isAtRest_15 (F : Nat) (p1 : Int32) (p2 : Int32) (v1 : Int32) (self4 : Int32 → St → Option (Int32 × St)) (x2 : Int32) (u3 : St) : Option (Int32 × St) :=
  if 10 ≤ x2 then some (1, u3) else gd (inb ((10 * x2) + p2) 100) (bd (pX6_worth F (u3.2 52 (Int32.toNatClampNeg ((10 * x2) + p2))) 0 u3) (fun (r6 : Int32) (u5 : St) => bd (pX6_worth F v1 0 u5) (fun (r8 : Int32) (u7 : St) => if r8 < r6 then some (0, u7) else gd (inb ((10 * p1) + x2) 100) (bd (pX6_worth F (u7.2 52 (Int32.toNatClampNeg ((10 * p1) + x2))) 1 u7) (fun (r10 : Int32) (u9 : St) => bd (pX6_worth F v1 1 u9) (fun (r12 : Int32) (u11 : St) => if r10 ≤ r12 then (self4 (x2 + 1) u11) else some (0, u11)))))))
def pX6_isAtRest (F : Nat) (p1 : Int32) (p2 : Int32) (u : St) : Option (Int32 × St) :=
  gd (inb ((10 * p1) + p2) 100) (vl (u.2 52 (Int32.toNatClampNeg ((10 * p1) + p2))) (fun v1 => (lq1 (bX6_isAtRest_15 F p1 p2 v1) F 0 u)))
set_option maxRecDepth 100000 in
set_option maxHeartbeats 4000000 in
theorem tX6_isAtRest {l : Launch} {D : va_G} {cI cZ : ClassId} {ad : Nat → Nat} {tBURNS tFLAME_BOUNDS : Nat} {tS : Option Nat} {adK adV : Nat → Nat} (F : Nat) (p1 : Int32) (p2 : Int32) (u : St) : CtI l D [(cI, .int), (cZ, .boolean)] (wX ad cI cZ) (EX tBURNS tFLAME_BOUNDS tS adK adV) yX6_isAtRest wsX6_isAtRest ({ frames := 1, cells := 0, slots := 0, locals := 21 } : Room) [.ref (ad 0), .int p1, .int p2] u (pX6_isAtRest F p1 p2 u) := by
  refine ctI_of (own := RX6) (cc := cX6_isAtRest) (n := 5) (ret := (some .boolean)) (by decide) rfl rfl (Nat.le_of_ble_eq_true rfl) (lv := [(0, .ref (ad 0)), (1, .int p1), (2, .int p2)]) rfl (fun C => ?_)
  have iX6 : ∀ w ∈ wsX60, w ∈ wsX6_isAtRest := fun w h => List.mem_cons_of_mem _ (List.mem_append_right _ (inlX6 w h))
  rw [pX6_isAtRest]
  refine g_aload_n C 0 0 dX6_isAtRest_0 rfl ?_
  refine gfX_X6_verdictsByGuards C 1 iX6 (List.mem_cons_of_mem _ (List.mem_append_right _ wgL_2_17.1)) dX6_isAtRest_1 ?_
  refine g_bipush C 4 10 dX6_isAtRest_4 rfl ?_
  refine g_iload_n C 6 1 dX6_isAtRest_6 rfl ?_
  refine g_imul C 7 dX6_isAtRest_7 ?_
  refine g_iload_n C 8 2 dX6_isAtRest_8 rfl ?_
  refine g_iadd C 9 dX6_isAtRest_9 ?_
  refine g_iald C 10 (10 + 52) 0 (wX_arr 52 (by decide)) rfl dX6_isAtRest_10 ?_
  refine g_istore_nV C 11 (fun v1 => [(3, .int v1), (0, .ref (ad 0)), (1, .int p1), (2, .int p2)]) dX6_isAtRest_11 (by decide) (fun _ => rfl) (fun v1 => ?_)
  refine g_iconst C 12 0 dX6_isAtRest_12 rfl ?_
  refine g_istore C 13 [(4, .int 0), (3, .int v1), (0, .ref (ad 0)), (1, .int p1), (2, .int p2)] dX6_isAtRest_13 (by decide) rfl ?_
  refine g_sub _ [2, 3, 4, 1, 0] rfl ?_
  refine g_lq1 (fun (x2 : Int32) => [(0, .ref (ad 0)), (1, .int p1), (2, .int p2), (3, .int v1), (4, .int x2)]) (fun self4 hself4 x2 u3 => ?_) F 0 u
  rw [bX6_isAtRest_15]
  refine g_iload C 15 4 dX6_isAtRest_15 rfl ?_
  refine g_bipush C 17 10 dX6_isAtRest_17 rfl ?_
  refine g_icmp_ge C 19 78 dX6_isAtRest_19 (by decide) ?_ ?_
  · skip
    refine g_iconst C 78 1 dX6_isAtRest_78 rfl ?_
    exact g_nret C 79 rfl dX6_isAtRest_79
  · skip
    refine g_aload_n C 22 0 dX6_isAtRest_22 rfl ?_
    refine gfX_X6_verdictsByGuards C 23 iX6 (List.mem_cons_of_mem _ (List.mem_append_right _ wgL_2_17.1)) dX6_isAtRest_23 ?_
    refine g_bipush C 26 10 dX6_isAtRest_26 rfl ?_
    refine g_iload C 28 4 dX6_isAtRest_28 rfl ?_
    refine g_imul C 30 dX6_isAtRest_30 ?_
    refine g_iload_n C 31 2 dX6_isAtRest_31 rfl ?_
    refine g_iadd C 32 dX6_isAtRest_32 ?_
    refine g_iald C 33 (10 + 52) 0 (wX_arr 52 (by decide)) rfl dX6_isAtRest_33 ?_
    refine g_iconst C 34 0 dX6_isAtRest_34 rfl ?_
    refine g_callSi (st := []) (As := [.int (u3.2 52 (Int32.toNatClampNeg ((10 * x2) + p2))), .int 0]) C EX_ok EX_vm 35 2 (tX6_worth F (u3.2 52 (Int32.toNatClampNeg ((10 * x2) + p2))) 0 u3) rfl gX6_isAtRest_X6_worth rfl rfl rfl (by decide +kernel) ⟨Nat.le_of_ble_eq_true rfl, Nat.le_of_ble_eq_true rfl⟩ rfl (Nat.le_of_ble_eq_true rfl) dX6_isAtRest_35 (fun r6 u5 => ?_)
    refine g_iload_n C 38 3 dX6_isAtRest_38 rfl ?_
    refine g_iconst C 39 0 dX6_isAtRest_39 rfl ?_
    refine g_callSi (st := [.int r6]) (As := [.int v1, .int 0]) C EX_ok EX_vm 40 2 (tX6_worth F v1 0 u5) rfl gX6_isAtRest_X6_worth rfl rfl rfl (by decide +kernel) ⟨Nat.le_of_ble_eq_true rfl, Nat.le_of_ble_eq_true rfl⟩ rfl (Nat.le_of_ble_eq_true rfl) dX6_isAtRest_40 (fun r8 u7 => ?_)
    refine g_icmp_gt C 43 70 dX6_isAtRest_43 (by decide) ?_ ?_
    · skip
      refine g_iconst C 70 0 dX6_isAtRest_70 rfl ?_
      exact g_nret C 71 rfl dX6_isAtRest_71
    · skip
      refine g_aload_n C 46 0 dX6_isAtRest_46 rfl ?_
      refine gfX_X6_verdictsByGuards C 47 iX6 (List.mem_cons_of_mem _ (List.mem_append_right _ wgL_2_17.1)) dX6_isAtRest_47 ?_
      refine g_bipush C 50 10 dX6_isAtRest_50 rfl ?_
      refine g_iload_n C 52 1 dX6_isAtRest_52 rfl ?_
      refine g_imul C 53 dX6_isAtRest_53 ?_
      refine g_iload C 54 4 dX6_isAtRest_54 rfl ?_
      refine g_iadd C 56 dX6_isAtRest_56 ?_
      refine g_iald C 57 (10 + 52) 0 (wX_arr 52 (by decide)) rfl dX6_isAtRest_57 ?_
      refine g_iconst C 58 1 dX6_isAtRest_58 rfl ?_
      refine g_callSi (st := []) (As := [.int (u7.2 52 (Int32.toNatClampNeg ((10 * p1) + x2))), .int 1]) C EX_ok EX_vm 59 2 (tX6_worth F (u7.2 52 (Int32.toNatClampNeg ((10 * p1) + x2))) 1 u7) rfl gX6_isAtRest_X6_worth rfl rfl rfl (by decide +kernel) ⟨Nat.le_of_ble_eq_true rfl, Nat.le_of_ble_eq_true rfl⟩ rfl (Nat.le_of_ble_eq_true rfl) dX6_isAtRest_59 (fun r10 u9 => ?_)
      refine g_iload_n C 62 3 dX6_isAtRest_62 rfl ?_
      refine g_iconst C 63 1 dX6_isAtRest_63 rfl ?_
      refine g_callSi (st := [.int r10]) (As := [.int v1, .int 1]) C EX_ok EX_vm 64 2 (tX6_worth F v1 1 u9) rfl gX6_isAtRest_X6_worth rfl rfl rfl (by decide +kernel) ⟨Nat.le_of_ble_eq_true rfl, Nat.le_of_ble_eq_true rfl⟩ rfl (Nat.le_of_ble_eq_true rfl) dX6_isAtRest_64 (fun r12 u11 => ?_)
      refine g_icmp_le C 67 72 dX6_isAtRest_67 (by decide) ?_ ?_
      · skip
        refine g_iinc C 72 4 [(4, .int (x2 + 1)), (0, .ref (ad 0)), (1, .int p1), (2, .int p2), (3, .int v1)] dX6_isAtRest_72 rfl rfl (by decide) rfl ?_
        refine g_goto C 75 15 dX6_isAtRest_75 (by decide) ?_
        exact g_sub _ [1, 2, 3, 4, 0] rfl (hself4 (x2 + 1) u11)
      · skip
        refine g_iconst C 70 0 dX6_isAtRest_70 rfl ?_
        exact g_nret C 71 rfl dX6_isAtRest_71
def jX6_rest_100 (F : Nat) (p3 : Int32) (a8 : Int32) (a9 : Int32) (u10 : St) : Option (Int32 × St) :=
  if p3 = 0 then some (a8, u10) else some (a9, u10)
def bX6_rest_51 (F : Nat) (J100 : Int32 → Int32 → St → Option (Int32 × St)) (self15 : Int32 → Int32 → Int32 → St → Option (Int32 × St)) (x11 : Int32) (x12 : Int32) (x13 : Int32) (u14 : St) : Option (Int32 × St) :=
  if 100 ≤ x13 then (J100 x11 x12 u14) else gd (nz 10) (gd (nz 10) (bd (pX6_isAtRest F (x13 / 10) (irm x13 10) u14) (fun (r17 : Int32) (u16 : St) => jn (fun (a18 : Int32) (a19 : Int32) (u20 : St) => (self15 a18 a19 (x13 + 1) u20)) (fun (J94 : Int32 → Int32 → St → Option (Int32 × St)) => if r17 = 0 then (J94 x11 x12 u16) else jn (fun (a21 : Int32) (u22 : St) => (J94 (x11 + 1) a21 u22)) (fun (J92 : Int32 → St → Option (Int32 × St)) => if x12 = (-4) then (J92 x13 u16) else (J92 x12 u16))))))
def pX6_rest (F : Nat) (p1 : Int32) (p2 : Int32) (p3 : Int32) (u : St) : Option (Int32 × St) :=
  bd (pX0_hasCase F 0 (Int32.toInt64 p1) u) (fun (r2 : Int32) (u1 : St) => if r2 = 0 then some ((-1), u1) else bd (pX0_hasJudge F 0 p2 u1) (fun (r4 : Int32) (u3 : St) => if r4 = 0 then some ((-1), u3) else bd (pX6_isIn F (Int32.toInt64 p3) 0 1 u3) (fun (r6 : Int32) (u5 : St) => if r6 = 0 then some ((-1), u5) else bd (pX6_fillVerdictsByGuards F p1 p2 u5) (fun (_ : Unit) (u7 : St) => jn (jX6_rest_100 F p3) (fun (J100 : Int32 → Int32 → St → Option (Int32 × St)) => (lq3 (bX6_rest_51 F J100) F 0 (-4) 0 u7))))))
set_option maxRecDepth 100000 in
set_option maxHeartbeats 4000000 in
theorem tX6_rest {l : Launch} {D : va_G} {cI cZ : ClassId} {ad : Nat → Nat} {tBURNS tFLAME_BOUNDS : Nat} {tS : Option Nat} {adK adV : Nat → Nat} (F : Nat) (p1 : Int32) (p2 : Int32) (p3 : Int32) (u : St) : CtI l D [(cI, .int), (cZ, .boolean)] (wX ad cI cZ) (EX tBURNS tFLAME_BOUNDS tS adK adV) yX6_rest wsX6_rest ({ frames := 5, cells := 0, slots := 0, locals := 108 } : Room) [.ref (ad 0), .int p1, .int p2, .int p3] u (pX6_rest F p1 p2 p3 u) := by
  refine ctI_of (own := RX6) (cc := cX6_rest) (n := 7) (ret := (some .int)) (by decide) rfl rfl (Nat.le_of_ble_eq_true rfl) (lv := [(0, .ref (ad 0)), (1, .int p1), (2, .int p2), (3, .int p3)]) rfl (fun C => ?_)
  have iX6 : ∀ w ∈ wsX60, w ∈ wsX6_rest := fun w h => List.mem_cons_of_mem _ (List.mem_append_right _ (inlX6 w h))
  rw [pX6_rest]
  refine g_aload_n C 0 0 dX6_rest_0 rfl ?_
  refine gfX_X6_court C 1 iX6 (List.mem_cons_of_mem _ (List.mem_append_right _ wgL_1_15.1)) dX6_rest_1 ?_
  refine g_iload_n C 4 1 dX6_rest_4 rfl ?_
  refine g_i2l C 5 dX6_rest_5 ?_
  refine g_callVi (st := []) (As := [.long (Int32.toInt64 p1)]) C EX_ok EX_vm 6 1 1 (tX0_hasCase F 0 (by decide) (Int32.toInt64 p1) u) rfl gX6_rest_X0_hasCase rfl rfl rfl (by decide +kernel) ⟨Nat.le_of_ble_eq_true rfl, Nat.le_of_ble_eq_true rfl⟩ (wX_X0 ad cI cZ _ 0 (by decide)) rfl rfl (Nat.le_of_ble_eq_true rfl) dX6_rest_6 (fun r2 u1 => ?_)
  refine g_if_eq C 9 33 dX6_rest_9 (by decide) ?_ ?_
  · skip
    refine g_iconst C 33 (-1) dX6_rest_33 rfl ?_
    exact g_iret C 34 dX6_rest_34
  · skip
    refine g_aload_n C 12 0 dX6_rest_12 rfl ?_
    refine gfX_X6_court C 13 iX6 (List.mem_cons_of_mem _ (List.mem_append_right _ wgL_1_15.1)) dX6_rest_13 ?_
    refine g_iload_n C 16 2 dX6_rest_16 rfl ?_
    refine g_callVi (st := []) (As := [.int p2]) C EX_ok EX_vm 17 1 1 (tX0_hasJudge F 0 (by decide) p2 u1) rfl gX6_rest_X0_hasJudge rfl rfl rfl (by decide +kernel) ⟨Nat.le_of_ble_eq_true rfl, Nat.le_of_ble_eq_true rfl⟩ (wX_X0 ad cI cZ _ 0 (by decide)) rfl rfl (Nat.le_of_ble_eq_true rfl) dX6_rest_17 (fun r4 u3 => ?_)
    refine g_if_eq C 20 33 dX6_rest_20 (by decide) ?_ ?_
    · skip
      refine g_iconst C 33 (-1) dX6_rest_33 rfl ?_
      exact g_iret C 34 dX6_rest_34
    · skip
      refine g_iload_n C 23 3 dX6_rest_23 rfl ?_
      refine g_i2l C 24 dX6_rest_24 ?_
      refine g_iconst C 25 0 dX6_rest_25 rfl ?_
      refine g_iconst C 26 1 dX6_rest_26 rfl ?_
      refine g_callSi (st := []) (As := [.long (Int32.toInt64 p3), .int 0, .int 1]) C EX_ok EX_vm 27 3 (tX6_isIn F (Int32.toInt64 p3) 0 1 u3) rfl gX6_rest_X6_isIn rfl rfl rfl (by decide +kernel) ⟨Nat.le_of_ble_eq_true rfl, Nat.le_of_ble_eq_true rfl⟩ rfl (Nat.le_of_ble_eq_true rfl) dX6_rest_27 (fun r6 u5 => ?_)
      refine g_if_ne C 30 35 dX6_rest_30 (by decide) ?_ ?_
      · skip
        refine g_aload_n C 35 0 dX6_rest_35 rfl ?_
        refine g_iload_n C 36 1 dX6_rest_36 rfl ?_
        refine g_iload_n C 37 2 dX6_rest_37 rfl ?_
        refine g_callVv (st := []) (As := [.int p1, .int p2]) C EX_ok EX_vm 38 0 2 (tX6_fillVerdictsByGuards F p1 p2 u5) rfl gX6_rest_X6_fillVerdictsByGuards rfl rfl rfl (by decide +kernel) ⟨Nat.le_of_ble_eq_true rfl, Nat.le_of_ble_eq_true rfl⟩ rfl rfl rfl (Nat.le_of_ble_eq_true rfl) dX6_rest_38 (fun u7 => ?_)
        refine g_iconst C 41 0 dX6_rest_41 rfl ?_
        refine g_istore C 42 [(4, .int 0), (0, .ref (ad 0)), (1, .int p1), (2, .int p2), (3, .int p3)] dX6_rest_42 (by decide) rfl ?_
        refine g_bipush C 44 (-4) dX6_rest_44 rfl ?_
        refine g_istore C 46 [(5, .int (-4)), (4, .int 0), (0, .ref (ad 0)), (1, .int p1), (2, .int p2), (3, .int p3)] dX6_rest_46 (by decide) rfl ?_
        refine g_iconst C 48 0 dX6_rest_48 rfl ?_
        refine g_istore C 49 [(6, .int 0), (5, .int (-4)), (4, .int 0), (0, .ref (ad 0)), (1, .int p1), (2, .int p2), (3, .int p3)] dX6_rest_49 (by decide) rfl ?_
        refine g_jn2 100 (fun (a8 : Int32) (a9 : Int32) => [(3, .int p3), (4, .int a8), (5, .int a9)]) (fun (a8 : Int32) (a9 : Int32) => []) (fun a8 a9 u10 => ?_) (fun J100 hJ100 => ?_)
        · skip
          rw [jX6_rest_100]
          refine g_iload_n C 100 0 dX6_rest_100 rfl ?_
          refine g_if_ne C 101 109 dX6_rest_101 (by decide) ?_ ?_
          · skip
            refine g_iload C 109 2 dX6_rest_109 rfl ?_
            exact g_iret C 111 dX6_rest_111
          · skip
            refine g_iload C 104 1 dX6_rest_104 rfl ?_
            refine g_goto C 106 111 dX6_rest_106 (by decide) ?_
            exact g_iret C 111 dX6_rest_111
        · skip
          refine g_sub _ [3, 6, 2, 1, 0] rfl ?_
          refine g_lq3 (fun (x11 : Int32) (x12 : Int32) (x13 : Int32) => [(0, .ref (ad 0)), (3, .int p3), (4, .int x11), (5, .int x12), (6, .int x13)]) (fun self15 hself15 x11 x12 x13 u14 => ?_) F 0 (-4) 0 u7
          rw [bX6_rest_51]
          refine g_iload C 51 4 dX6_rest_51 rfl ?_
          refine g_bipush C 53 100 dX6_rest_53 rfl ?_
          refine g_icmp_ge C 55 100 dX6_rest_55 (by decide) ?_ ?_
          · skip
            exact g_sub _ [1, 2, 3] rfl (hJ100 x11 x12 u14)
          · skip
            refine g_aload_n C 58 0 dX6_rest_58 rfl ?_
            refine g_iload C 59 4 dX6_rest_59 rfl ?_
            refine g_bipush C 61 10 dX6_rest_61 rfl ?_
            refine g_idiv C 63 dX6_rest_63 ?_
            refine g_iload C 64 4 dX6_rest_64 rfl ?_
            refine g_bipush C 66 10 dX6_rest_66 rfl ?_
            refine g_irem C 68 dX6_rest_68 ?_
            refine g_callVi (st := []) (As := [.int (x13 / 10), .int (irm x13 10)]) C EX_ok EX_vm 69 0 2 (tX6_isAtRest F (x13 / 10) (irm x13 10) u14) rfl gX6_rest_X6_isAtRest rfl rfl rfl (by decide +kernel) ⟨Nat.le_of_ble_eq_true rfl, Nat.le_of_ble_eq_true rfl⟩ rfl rfl rfl (Nat.le_of_ble_eq_true rfl) dX6_rest_69 (fun r17 u16 => ?_)
            refine g_jn2 94 (fun (a18 : Int32) (a19 : Int32) => [(0, .ref (ad 0)), (3, .int p3), (4, .int a18), (5, .int a19), (6, .int x13)]) (fun (a18 : Int32) (a19 : Int32) => []) (fun a18 a19 u20 => ?_) (fun J94 hJ94 => ?_)
            · skip
              refine g_iinc C 94 4 [(6, .int (x13 + 1)), (0, .ref (ad 0)), (3, .int p3), (4, .int a18), (5, .int a19)] dX6_rest_94 rfl rfl (by decide) rfl ?_
              refine g_goto C 97 51 dX6_rest_97 (by decide) ?_
              exact g_sub _ [1, 2, 3, 4, 0] rfl (hself15 a18 a19 (x13 + 1) u20)
            · skip
              refine g_if_eq C 72 94 dX6_rest_72 (by decide) ?_ ?_
              · skip
                exact g_sub _ [0, 1, 2, 3, 4] rfl (hJ94 x11 x12 u16)
              · skip
                refine g_iinc C 75 2 [(4, .int (x11 + 1)), (0, .ref (ad 0)), (3, .int p3), (5, .int x12), (6, .int x13)] dX6_rest_75 rfl rfl (by decide) rfl ?_
                refine g_iload C 78 3 dX6_rest_78 rfl ?_
                refine g_bipush C 80 (-4) dX6_rest_80 rfl ?_
                refine g_jn1 92 (fun (a21 : Int32) => [(0, .ref (ad 0)), (3, .int p3), (4, .int (x11 + 1)), (6, .int x13)]) (fun (a21 : Int32) => [.int a21]) (fun a21 u22 => ?_) (fun J92 hJ92 => ?_)
                · skip
                  refine g_istore C 92 [(5, .int a21), (0, .ref (ad 0)), (3, .int p3), (4, .int (x11 + 1)), (6, .int x13)] dX6_rest_92 (by decide) rfl ?_
                  exact g_sub _ [1, 2, 3, 0, 4] rfl (hJ94 (x11 + 1) a21 u22)
                · skip
                  refine g_icmp_ne C 82 90 dX6_rest_82 (by decide) ?_ ?_
                  · skip
                    refine g_iload C 90 3 dX6_rest_90 rfl ?_
                    exact g_sub _ [1, 2, 0, 4] rfl (hJ92 x12 u16)
                  · skip
                    refine g_iload C 85 4 dX6_rest_85 rfl ?_
                    refine g_goto C 87 92 dX6_rest_87 (by decide) ?_
                    exact g_sub _ [1, 2, 0, 4] rfl (hJ92 x13 u16)
      · skip
        refine g_iconst C 33 (-1) dX6_rest_33 rfl ?_
        exact g_iret C 34 dX6_rest_34
def bX6_casesThatMayBeWon_4 (F : Nat) (p1 : Int32) (self4 : Int32 → Int32 → St → Option (Int32 × St)) (x1 : Int32) (x2 : Int32) (u3 : St) : Option (Int32 × St) :=
  if (u3.1 0) ≤ x2 then some (x1, u3) else gd (inb x2 4) (jn (fun (a5 : Int32) (u6 : St) => vl (x1 + a5) (fun v7 => (self4 v7 (x2 + 1) u6))) (fun (J42 : Int32 → St → Option (Int32 × St)) => jn (fun (u8 : St) => (J42 0 u8)) (fun (J41 : St → Option (Int32 × St)) => if (u3.2 3 (Int32.toNatClampNeg x2)) = 0 then bd (pX6_judgesFor F x2 p1 u3) (fun (r10 : Int32) (u9 : St) => if r10 = 0 then (J41 u9) else (J42 1 u9)) else (J41 u3))))
def pX6_casesThatMayBeWon (F : Nat) (p1 : Int32) (u : St) : Option (Int32 × St) :=
  (lq2 (bX6_casesThatMayBeWon_4 F p1) F 0 0 u)
set_option maxRecDepth 100000 in
set_option maxHeartbeats 4000000 in
theorem tX6_casesThatMayBeWon {l : Launch} {D : va_G} {cI cZ : ClassId} {ad : Nat → Nat} {tBURNS tFLAME_BOUNDS : Nat} {tS : Option Nat} {adK adV : Nat → Nat} (F : Nat) (p1 : Int32) (u : St) : CtI l D [(cI, .int), (cZ, .boolean)] (wX ad cI cZ) (EX tBURNS tFLAME_BOUNDS tS adK adV) yX6_casesThatMayBeWon wsX6_casesThatMayBeWon ({ frames := 6, cells := 0, slots := 0, locals := 131 } : Room) [.ref (ad 0), .int p1] u (pX6_casesThatMayBeWon F p1 u) := by
  refine ctI_of (own := RX6) (cc := cX6_casesThatMayBeWon) (n := 4) (ret := (some .int)) (by decide) rfl rfl (Nat.le_of_ble_eq_true rfl) (lv := [(0, .ref (ad 0)), (1, .int p1)]) rfl (fun C => ?_)
  have iX0 : ∀ w ∈ wsX00, w ∈ wsX6_casesThatMayBeWon := fun w h => List.mem_cons_of_mem _ (List.mem_append_right _ (inlX0 w h))
  have iX6 : ∀ w ∈ wsX60, w ∈ wsX6_casesThatMayBeWon := fun w h => List.mem_cons_of_mem _ (List.mem_append_right _ (inlX6 w h))
  rw [pX6_casesThatMayBeWon]
  refine g_iconst C 0 0 dX6_casesThatMayBeWon_0 rfl ?_
  refine g_istore_n C 1 [(2, .int 0), (0, .ref (ad 0)), (1, .int p1)] dX6_casesThatMayBeWon_1 (by decide) rfl ?_
  refine g_iconst C 2 0 dX6_casesThatMayBeWon_2 rfl ?_
  refine g_istore_n C 3 [(3, .int 0), (2, .int 0), (0, .ref (ad 0)), (1, .int p1)] dX6_casesThatMayBeWon_3 (by decide) rfl ?_
  refine g_sub _ [2, 3, 1, 0] rfl ?_
  refine g_lq2 (fun (x1 : Int32) (x2 : Int32) => [(0, .ref (ad 0)), (1, .int p1), (2, .int x1), (3, .int x2)]) (fun self4 hself4 x1 x2 u3 => ?_) F 0 0 u
  rw [bX6_casesThatMayBeWon_4]
  refine g_iload_n C 4 3 dX6_casesThatMayBeWon_4 rfl ?_
  refine g_aload_n C 5 0 dX6_casesThatMayBeWon_5 rfl ?_
  refine gfX_X6_court C 6 iX6 (List.mem_cons_of_mem _ (List.mem_append_right _ wgL_1_15.1)) dX6_casesThatMayBeWon_6 ?_
  refine gfX_X0_cases 0 (by decide) C 9 iX0 (List.mem_cons_of_mem _ (List.mem_append_right _ wgL_18_5.1)) dX6_casesThatMayBeWon_9 ?_
  refine g_icmp_ge C 12 50 dX6_casesThatMayBeWon_12 (by decide) ?_ ?_
  · skip
    refine g_iload_n C 50 2 dX6_casesThatMayBeWon_50 rfl ?_
    exact g_iret C 51 dX6_casesThatMayBeWon_51
  · skip
    refine g_iload_n C 15 2 dX6_casesThatMayBeWon_15 rfl ?_
    refine g_aload_n C 16 0 dX6_casesThatMayBeWon_16 rfl ?_
    refine gfX_X6_court C 17 iX6 (List.mem_cons_of_mem _ (List.mem_append_right _ wgL_1_15.1)) dX6_casesThatMayBeWon_17 ?_
    refine gfX_X0_verdict 0 (by decide) C 20 iX0 (List.mem_cons_of_mem _ (List.mem_append_right _ wgL_18_9.1)) dX6_casesThatMayBeWon_20 ?_
    refine g_iload_n C 23 3 dX6_casesThatMayBeWon_23 rfl ?_
    refine g_iald C 24 (10 + 3) 0 (wX_arr 3 (by decide)) rfl dX6_casesThatMayBeWon_24 ?_
    refine g_jn1 42 (fun (a5 : Int32) => [(0, .ref (ad 0)), (1, .int p1), (3, .int x2)]) (fun (a5 : Int32) => [.int a5, .int x1]) (fun a5 u6 => ?_) (fun J42 hJ42 => ?_)
    · skip
      refine g_iadd C 42 dX6_casesThatMayBeWon_42 ?_
      refine g_istore_nV C 43 (fun v7 => [(2, .int v7), (0, .ref (ad 0)), (1, .int p1), (3, .int x2)]) dX6_casesThatMayBeWon_43 (by decide) (fun _ => rfl) (fun v7 => ?_)
      refine g_iinc C 44 3 [(3, .int (x2 + 1)), (2, .int v7), (0, .ref (ad 0)), (1, .int p1)] dX6_casesThatMayBeWon_44 rfl rfl (by decide) rfl ?_
      refine g_goto C 47 4 dX6_casesThatMayBeWon_47 (by decide) ?_
      exact g_sub _ [2, 3, 1, 0] rfl (hself4 v7 (x2 + 1) u6)
    · skip
      refine g_jn0 41 ([(0, .ref (ad 0)), (1, .int p1), (3, .int x2)]) ([.int x1]) (fun u8 => ?_) (fun J41 hJ41 => ?_)
      · skip
        refine g_iconst C 41 0 dX6_casesThatMayBeWon_41 rfl ?_
        exact g_sub _ [0, 1, 2] rfl (hJ42 0 u8)
      · skip
        refine g_if_ne C 25 41 dX6_casesThatMayBeWon_25 (by decide) ?_ ?_
        · skip
          exact g_sub _ [0, 1, 3] rfl (hJ41 u3)
        · skip
          refine g_aload_n C 28 0 dX6_casesThatMayBeWon_28 rfl ?_
          refine g_iload_n C 29 3 dX6_casesThatMayBeWon_29 rfl ?_
          refine g_iload_n C 30 1 dX6_casesThatMayBeWon_30 rfl ?_
          refine g_callVi (st := [.int x1]) (As := [.int x2, .int p1]) C EX_ok EX_vm 31 0 2 (tX6_judgesFor F x2 p1 u3) rfl gX6_casesThatMayBeWon_X6_judgesFor rfl rfl rfl (by decide +kernel) ⟨Nat.le_of_ble_eq_true rfl, Nat.le_of_ble_eq_true rfl⟩ rfl rfl rfl (Nat.le_of_ble_eq_true rfl) dX6_casesThatMayBeWon_31 (fun r10 u9 => ?_)
          refine g_if_eq C 34 41 dX6_casesThatMayBeWon_34 (by decide) ?_ ?_
          · skip
            exact g_sub _ [0, 1, 3] rfl (hJ41 u9)
          · skip
            refine g_iconst C 37 1 dX6_casesThatMayBeWon_37 rfl ?_
            refine g_goto C 38 42 dX6_casesThatMayBeWon_38 (by decide) ?_
            exact g_sub _ [0, 1, 3] rfl (hJ42 1 u9)
def pJ6_numberOfTrailingZeros_0f7a4 (F : Nat) (p1 : Int32) (u : St) : Option (Int32 × St) :=
  vl ((p1 ^^^ (-1)) &&& (p1 - 1)) (fun v1 => if 0 < v1 then jn (fun (a2 : Int32) (a3 : Int32) (u4 : St) => jn (fun (a5 : Int32) (a6 : Int32) (u7 : St) => jn (fun (a8 : Int32) (a9 : Int32) (u10 : St) => if a8 ≤ 4 then some ((a9 + (ushr a8 1)), u10) else vl (ushr a8 2) (fun v11 => some (((a9 + 2) + (ushr v11 1)), u10))) (fun (J62 : Int32 → Int32 → St → Option (Int32 × St)) => if a5 ≤ 16 then (J62 a5 a6 u7) else vl (ushr a5 4) (fun v12 => (J62 v12 (a6 + 4) u7)))) (fun (J49 : Int32 → Int32 → St → Option (Int32 × St)) => if a2 ≤ 256 then (J49 a2 a3 u4) else vl (ushr a2 8) (fun v13 => (J49 v13 (a3 + 8) u4)))) (fun (J34 : Int32 → Int32 → St → Option (Int32 × St)) => if v1 ≤ 65536 then (J34 v1 1 u) else vl (ushr v1 16) (fun v14 => (J34 v14 (1 + 16) u))) else some ((v1 &&& 32), u))
set_option maxRecDepth 100000 in
set_option maxHeartbeats 4000000 in
theorem tJ6_numberOfTrailingZeros_0f7a4 {l : Launch} {D : va_G} {cI cZ : ClassId} {ad : Nat → Nat} {tBURNS tFLAME_BOUNDS : Nat} {tS : Option Nat} {adK adV : Nat → Nat} (F : Nat) (p1 : Int32) (u : St) : CtI l D [(cI, .int), (cZ, .boolean)] (wX ad cI cZ) (EX tBURNS tFLAME_BOUNDS tS adK adV) yJ6_numberOfTrailingZeros_0f7a4 wsJ6_numberOfTrailingZeros_0f7a4 ({ frames := 0, cells := 0, slots := 0, locals := 0 } : Room) [.int p1] u (pJ6_numberOfTrailingZeros_0f7a4 F p1 u) := by
  refine ctI_of (own := RJ6) (cc := cJ6_numberOfTrailingZeros_0f7a4) (n := 2) (ret := (some .int)) (by decide) rfl rfl (Nat.le_of_ble_eq_true rfl) (lv := [(0, .int p1)]) rfl (fun C => ?_)
  rw [pJ6_numberOfTrailingZeros_0f7a4]
  refine g_iload_n C 0 0 dJ6_numberOfTrailingZeros_0f7a4_0 rfl ?_
  refine g_iconst C 1 (-1) dJ6_numberOfTrailingZeros_0f7a4_1 rfl ?_
  refine g_ixor C 2 dJ6_numberOfTrailingZeros_0f7a4_2 ?_
  refine g_iload_n C 3 0 dJ6_numberOfTrailingZeros_0f7a4_3 rfl ?_
  refine g_iconst C 4 1 dJ6_numberOfTrailingZeros_0f7a4_4 rfl ?_
  refine g_isub C 5 dJ6_numberOfTrailingZeros_0f7a4_5 ?_
  refine g_iand C 6 dJ6_numberOfTrailingZeros_0f7a4_6 ?_
  refine g_istore_nV C 7 (fun v1 => [(0, .int v1)]) dJ6_numberOfTrailingZeros_0f7a4_7 (by decide) (fun _ => rfl) (fun v1 => ?_)
  refine g_iload_n C 8 0 dJ6_numberOfTrailingZeros_0f7a4_8 rfl ?_
  refine g_if_gt C 9 17 dJ6_numberOfTrailingZeros_0f7a4_9 (by decide) ?_ ?_
  · skip
    refine g_iconst C 17 1 dJ6_numberOfTrailingZeros_0f7a4_17 rfl ?_
    refine g_istore_n C 18 [(1, .int 1), (0, .int v1)] dJ6_numberOfTrailingZeros_0f7a4_18 (by decide) rfl ?_
    refine g_iload_n C 19 1 dJ6_numberOfTrailingZeros_0f7a4_19 rfl ?_
    refine g_ldcw C 20 65536 (by decide +kernel) dJ6_numberOfTrailingZeros_0f7a4_20 ?_
    refine g_jn2 34 (fun (a2 : Int32) (a3 : Int32) => [(0, .int a2), (1, .int a3)]) (fun (a2 : Int32) (a3 : Int32) => []) (fun a2 a3 u4 => ?_) (fun J34 hJ34 => ?_)
    · skip
      refine g_iload_n C 34 0 dJ6_numberOfTrailingZeros_0f7a4_34 rfl ?_
      refine g_sipush C 35 256 dJ6_numberOfTrailingZeros_0f7a4_35 rfl ?_
      refine g_jn2 49 (fun (a5 : Int32) (a6 : Int32) => [(0, .int a5), (1, .int a6)]) (fun (a5 : Int32) (a6 : Int32) => []) (fun a5 a6 u7 => ?_) (fun J49 hJ49 => ?_)
      · skip
        refine g_iload_n C 49 0 dJ6_numberOfTrailingZeros_0f7a4_49 rfl ?_
        refine g_bipush C 50 16 dJ6_numberOfTrailingZeros_0f7a4_50 rfl ?_
        refine g_jn2 62 (fun (a8 : Int32) (a9 : Int32) => [(0, .int a8), (1, .int a9)]) (fun (a8 : Int32) (a9 : Int32) => []) (fun a8 a9 u10 => ?_) (fun J62 hJ62 => ?_)
        · skip
          refine g_iload_n C 62 0 dJ6_numberOfTrailingZeros_0f7a4_62 rfl ?_
          refine g_iconst C 63 4 dJ6_numberOfTrailingZeros_0f7a4_63 rfl ?_
          refine g_icmp_le C 64 74 dJ6_numberOfTrailingZeros_0f7a4_64 (by decide) ?_ ?_
          · skip
            refine g_iload_n C 74 1 dJ6_numberOfTrailingZeros_0f7a4_74 rfl ?_
            refine g_iload_n C 75 0 dJ6_numberOfTrailingZeros_0f7a4_75 rfl ?_
            refine g_iconst C 76 1 dJ6_numberOfTrailingZeros_0f7a4_76 rfl ?_
            refine g_iushr C 77 dJ6_numberOfTrailingZeros_0f7a4_77 ?_
            refine g_iadd C 78 dJ6_numberOfTrailingZeros_0f7a4_78 ?_
            exact g_iret C 79 dJ6_numberOfTrailingZeros_0f7a4_79
          · skip
            refine g_iinc C 67 1 [(1, .int (a9 + 2)), (0, .int a8)] dJ6_numberOfTrailingZeros_0f7a4_67 rfl rfl (by decide) rfl ?_
            refine g_iload_n C 70 1 dJ6_numberOfTrailingZeros_0f7a4_70 rfl ?_
            refine g_iconst C 71 2 dJ6_numberOfTrailingZeros_0f7a4_71 rfl ?_
            refine g_iushr C 72 dJ6_numberOfTrailingZeros_0f7a4_72 ?_
            refine g_istore_nV C 73 (fun v11 => [(0, .int v11), (1, .int (a9 + 2))]) dJ6_numberOfTrailingZeros_0f7a4_73 (by decide) (fun _ => rfl) (fun v11 => ?_)
            refine g_iload_n C 74 1 dJ6_numberOfTrailingZeros_0f7a4_74 rfl ?_
            refine g_iload_n C 75 0 dJ6_numberOfTrailingZeros_0f7a4_75 rfl ?_
            refine g_iconst C 76 1 dJ6_numberOfTrailingZeros_0f7a4_76 rfl ?_
            refine g_iushr C 77 dJ6_numberOfTrailingZeros_0f7a4_77 ?_
            refine g_iadd C 78 dJ6_numberOfTrailingZeros_0f7a4_78 ?_
            exact g_iret C 79 dJ6_numberOfTrailingZeros_0f7a4_79
        · skip
          refine g_icmp_le C 52 62 dJ6_numberOfTrailingZeros_0f7a4_52 (by decide) ?_ ?_
          · skip
            exact g_sub _ [0, 1] rfl (hJ62 a5 a6 u7)
          · skip
            refine g_iinc C 55 1 [(1, .int (a6 + 4)), (0, .int a5)] dJ6_numberOfTrailingZeros_0f7a4_55 rfl rfl (by decide) rfl ?_
            refine g_iload_n C 58 1 dJ6_numberOfTrailingZeros_0f7a4_58 rfl ?_
            refine g_iconst C 59 4 dJ6_numberOfTrailingZeros_0f7a4_59 rfl ?_
            refine g_iushr C 60 dJ6_numberOfTrailingZeros_0f7a4_60 ?_
            refine g_istore_nV C 61 (fun v12 => [(0, .int v12), (1, .int (a6 + 4))]) dJ6_numberOfTrailingZeros_0f7a4_61 (by decide) (fun _ => rfl) (fun v12 => ?_)
            exact g_sub _ [0, 1] rfl (hJ62 v12 (a6 + 4) u7)
      · skip
        refine g_icmp_le C 38 49 dJ6_numberOfTrailingZeros_0f7a4_38 (by decide) ?_ ?_
        · skip
          exact g_sub _ [0, 1] rfl (hJ49 a2 a3 u4)
        · skip
          refine g_iinc C 41 1 [(1, .int (a3 + 8)), (0, .int a2)] dJ6_numberOfTrailingZeros_0f7a4_41 rfl rfl (by decide) rfl ?_
          refine g_iload_n C 44 1 dJ6_numberOfTrailingZeros_0f7a4_44 rfl ?_
          refine g_bipush C 45 8 dJ6_numberOfTrailingZeros_0f7a4_45 rfl ?_
          refine g_iushr C 47 dJ6_numberOfTrailingZeros_0f7a4_47 ?_
          refine g_istore_nV C 48 (fun v13 => [(0, .int v13), (1, .int (a3 + 8))]) dJ6_numberOfTrailingZeros_0f7a4_48 (by decide) (fun _ => rfl) (fun v13 => ?_)
          exact g_sub _ [0, 1] rfl (hJ49 v13 (a3 + 8) u4)
    · skip
      refine g_icmp_le C 23 34 dJ6_numberOfTrailingZeros_0f7a4_23 (by decide) ?_ ?_
      · skip
        exact g_sub _ [1, 0] rfl (hJ34 v1 1 u)
      · skip
        refine g_iinc C 26 0 [(1, .int (1 + 16)), (0, .int v1)] dJ6_numberOfTrailingZeros_0f7a4_26 rfl rfl (by decide) rfl ?_
        refine g_iload_n C 29 1 dJ6_numberOfTrailingZeros_0f7a4_29 rfl ?_
        refine g_bipush C 30 16 dJ6_numberOfTrailingZeros_0f7a4_30 rfl ?_
        refine g_iushr C 32 dJ6_numberOfTrailingZeros_0f7a4_32 ?_
        refine g_istore_nV C 33 (fun v14 => [(0, .int v14), (1, .int (1 + 16))]) dJ6_numberOfTrailingZeros_0f7a4_33 (by decide) (fun _ => rfl) (fun v14 => ?_)
        exact g_sub _ [0, 1] rfl (hJ34 v14 (1 + 16) u)
  · skip
    refine g_iload_n C 12 0 dJ6_numberOfTrailingZeros_0f7a4_12 rfl ?_
    refine g_bipush C 13 32 dJ6_numberOfTrailingZeros_0f7a4_13 rfl ?_
    refine g_iand C 15 dJ6_numberOfTrailingZeros_0f7a4_15 ?_
    exact g_iret C 16 dJ6_numberOfTrailingZeros_0f7a4_16
def pX6_bestJudge (F : Nat) (p1 : Int32) (p2 : Int32) (u : St) : Option (Int32 × St) :=
  gd (inb p1 4) (if (u.2 3 (Int32.toNatClampNeg p1)) = 0 then bd (pX6_judgesFor F p1 p2 u) (fun (r2 : Int32) (u1 : St) => if r2 = 0 then some (0, u1) else bd (pJ6_numberOfTrailingZeros_0f7a4 F r2 u1) (fun (r4 : Int32) (u3 : St) => some (r4, u3))) else some ((-4), u))
set_option maxRecDepth 100000 in
set_option maxHeartbeats 4000000 in
theorem tX6_bestJudge {l : Launch} {D : va_G} {cI cZ : ClassId} {ad : Nat → Nat} {tBURNS tFLAME_BOUNDS : Nat} {tS : Option Nat} {adK adV : Nat → Nat} (F : Nat) (p1 : Int32) (p2 : Int32) (u : St) : CtI l D [(cI, .int), (cZ, .boolean)] (wX ad cI cZ) (EX tBURNS tFLAME_BOUNDS tS adK adV) yX6_bestJudge wsX6_bestJudge ({ frames := 6, cells := 0, slots := 0, locals := 131 } : Room) [.ref (ad 0), .int p1, .int p2] u (pX6_bestJudge F p1 p2 u) := by
  refine ctI_of (own := RX6) (cc := cX6_bestJudge) (n := 4) (ret := (some .int)) (by decide) rfl rfl (Nat.le_of_ble_eq_true rfl) (lv := [(0, .ref (ad 0)), (1, .int p1), (2, .int p2)]) rfl (fun C => ?_)
  have iX0 : ∀ w ∈ wsX00, w ∈ wsX6_bestJudge := fun w h => List.mem_cons_of_mem _ (List.mem_append_right _ (inlX0 w h))
  have iX6 : ∀ w ∈ wsX60, w ∈ wsX6_bestJudge := fun w h => List.mem_cons_of_mem _ (List.mem_append_right _ (inlX6 w h))
  rw [pX6_bestJudge]
  refine g_aload_n C 0 0 dX6_bestJudge_0 rfl ?_
  refine gfX_X6_court C 1 iX6 (List.mem_cons_of_mem _ (List.mem_append_right _ wgL_1_15.1)) dX6_bestJudge_1 ?_
  refine gfX_X0_verdict 0 (by decide) C 4 iX0 (List.mem_cons_of_mem _ (List.mem_append_right _ wgL_18_9.1)) dX6_bestJudge_4 ?_
  refine g_iload_n C 7 1 dX6_bestJudge_7 rfl ?_
  refine g_iald C 8 (10 + 3) 0 (wX_arr 3 (by decide)) rfl dX6_bestJudge_8 ?_
  refine g_if_eq C 9 15 dX6_bestJudge_9 (by decide) ?_ ?_
  · skip
    refine g_aload_n C 15 0 dX6_bestJudge_15 rfl ?_
    refine g_iload_n C 16 1 dX6_bestJudge_16 rfl ?_
    refine g_iload_n C 17 2 dX6_bestJudge_17 rfl ?_
    refine g_callVi (st := []) (As := [.int p1, .int p2]) C EX_ok EX_vm 18 0 2 (tX6_judgesFor F p1 p2 u) rfl gX6_bestJudge_X6_judgesFor rfl rfl rfl (by decide +kernel) ⟨Nat.le_of_ble_eq_true rfl, Nat.le_of_ble_eq_true rfl⟩ rfl rfl rfl (Nat.le_of_ble_eq_true rfl) dX6_bestJudge_18 (fun r2 u1 => ?_)
    refine g_istore_n C 21 [(3, .int r2), (0, .ref (ad 0)), (1, .int p1), (2, .int p2)] dX6_bestJudge_21 (by decide) rfl ?_
    refine g_iload_n C 22 0 dX6_bestJudge_22 rfl ?_
    refine g_if_ne C 23 30 dX6_bestJudge_23 (by decide) ?_ ?_
    · skip
      refine g_iload_n C 30 0 dX6_bestJudge_30 rfl ?_
      refine g_callSi (st := []) (As := [.int r2]) C EX_ok EX_vm 31 1 (tJ6_numberOfTrailingZeros_0f7a4 F r2 u1) rfl gX6_bestJudge_J6_numberOfTrailingZeros_0f7a4 rfl rfl rfl (by decide +kernel) ⟨Nat.le_of_ble_eq_true rfl, Nat.le_of_ble_eq_true rfl⟩ rfl (Nat.le_of_ble_eq_true rfl) dX6_bestJudge_31 (fun r4 u3 => ?_)
      exact g_iret C 34 dX6_bestJudge_34
    · skip
      refine g_iconst C 26 0 dX6_bestJudge_26 rfl ?_
      refine g_goto C 27 34 dX6_bestJudge_27 (by decide) ?_
      exact g_iret C 34 dX6_bestJudge_34
  · skip
    refine g_bipush C 12 (-4) dX6_bestJudge_12 rfl ?_
    exact g_iret C 14 dX6_bestJudge_14
def pX6_share (F : Nat) (p1 : Int32) (p2 : Int32) (u : St) : Option (Int32 × St) :=
  bd (pX6_isSide F p1 u) (fun (r2 : Int32) (u1 : St) => if r2 = 0 then some ((-1), u1) else jn (fun (u3 : St) => if (u3.1 1) = 0 then some ((-4), u3) else if p2 = 0 then bd (pX6_casesThatMayBeWon F p1 u3) (fun (r7 : Int32) (u6 : St) => some (r7, u6)) else bd (pX6_bestJudge F (p2 - 10) p1 u3) (fun (r5 : Int32) (u4 : St) => some (r5, u4))) (fun (J29 : St → Option (Int32 × St)) => if p2 = 0 then (J29 u1) else bd (pX0_hasCase F 0 ((Int32.toInt64 p2) - 10) u1) (fun (r9 : Int32) (u8 : St) => if r9 = 0 then some ((-1), u8) else (J29 u8))))
set_option maxRecDepth 100000 in
set_option maxHeartbeats 4000000 in
theorem tX6_share {l : Launch} {D : va_G} {cI cZ : ClassId} {ad : Nat → Nat} {tBURNS tFLAME_BOUNDS : Nat} {tS : Option Nat} {adK adV : Nat → Nat} (F : Nat) (p1 : Int32) (p2 : Int32) (u : St) : CtI l D [(cI, .int), (cZ, .boolean)] (wX ad cI cZ) (EX tBURNS tFLAME_BOUNDS tS adK adV) yX6_share wsX6_share ({ frames := 7, cells := 0, slots := 0, locals := 154 } : Room) [.ref (ad 0), .int p1, .int p2] u (pX6_share F p1 p2 u) := by
  refine ctI_of (own := RX6) (cc := cX6_share) (n := 3) (ret := (some .int)) (by decide) rfl rfl (Nat.le_of_ble_eq_true rfl) (lv := [(0, .ref (ad 0)), (1, .int p1), (2, .int p2)]) rfl (fun C => ?_)
  have iX0 : ∀ w ∈ wsX00, w ∈ wsX6_share := fun w h => List.mem_cons_of_mem _ (List.mem_append_right _ (inlX0 w h))
  have iX6 : ∀ w ∈ wsX60, w ∈ wsX6_share := fun w h => List.mem_cons_of_mem _ (List.mem_append_right _ (inlX6 w h))
  rw [pX6_share]
  refine g_iload_n C 0 1 dX6_share_0 rfl ?_
  refine g_callSi (st := []) (As := [.int p1]) C EX_ok EX_vm 1 1 (tX6_isSide F p1 u) rfl gX6_share_X6_isSide rfl rfl rfl (by decide +kernel) ⟨Nat.le_of_ble_eq_true rfl, Nat.le_of_ble_eq_true rfl⟩ rfl (Nat.le_of_ble_eq_true rfl) dX6_share_1 (fun r2 u1 => ?_)
  refine g_if_eq C 4 27 dX6_share_4 (by decide) ?_ ?_
  · skip
    refine g_iconst C 27 (-1) dX6_share_27 rfl ?_
    exact g_iret C 28 dX6_share_28
  · skip
    refine g_iload_n C 7 2 dX6_share_7 rfl ?_
    refine g_jn0 29 ([(0, .ref (ad 0)), (1, .int p1), (2, .int p2)]) ([]) (fun u3 => ?_) (fun J29 hJ29 => ?_)
    · skip
      refine g_aload_n C 29 0 dX6_share_29 rfl ?_
      refine gfX_X6_court C 30 iX6 (List.mem_cons_of_mem _ (List.mem_append_right _ wgL_1_15.1)) dX6_share_30 ?_
      refine gfX_X0_judges 0 (by decide) C 33 iX0 (List.mem_cons_of_mem _ (List.mem_append_right _ wgL_18_6.1)) dX6_share_33 ?_
      refine g_if_ne C 36 42 dX6_share_36 (by decide) ?_ ?_
      · skip
        refine g_iload_n C 42 2 dX6_share_42 rfl ?_
        refine g_if_ne C 43 54 dX6_share_43 (by decide) ?_ ?_
        · skip
          refine g_aload_n C 54 0 dX6_share_54 rfl ?_
          refine g_iload_n C 55 2 dX6_share_55 rfl ?_
          refine g_bipush C 56 10 dX6_share_56 rfl ?_
          refine g_isub C 58 dX6_share_58 ?_
          refine g_iload_n C 59 1 dX6_share_59 rfl ?_
          refine g_callVi (st := []) (As := [.int (p2 - 10), .int p1]) C EX_ok EX_vm 60 0 2 (tX6_bestJudge F (p2 - 10) p1 u3) rfl gX6_share_X6_bestJudge rfl rfl rfl (by decide +kernel) ⟨Nat.le_of_ble_eq_true rfl, Nat.le_of_ble_eq_true rfl⟩ rfl rfl rfl (Nat.le_of_ble_eq_true rfl) dX6_share_60 (fun r5 u4 => ?_)
          exact g_iret C 63 dX6_share_63
        · skip
          refine g_aload_n C 46 0 dX6_share_46 rfl ?_
          refine g_iload_n C 47 1 dX6_share_47 rfl ?_
          refine g_callVi (st := []) (As := [.int p1]) C EX_ok EX_vm 48 0 1 (tX6_casesThatMayBeWon F p1 u3) rfl gX6_share_X6_casesThatMayBeWon rfl rfl rfl (by decide +kernel) ⟨Nat.le_of_ble_eq_true rfl, Nat.le_of_ble_eq_true rfl⟩ rfl rfl rfl (Nat.le_of_ble_eq_true rfl) dX6_share_48 (fun r7 u6 => ?_)
          refine g_goto C 51 63 dX6_share_51 (by decide) ?_
          exact g_iret C 63 dX6_share_63
      · skip
        refine g_bipush C 39 (-4) dX6_share_39 rfl ?_
        exact g_iret C 41 dX6_share_41
    · skip
      refine g_if_eq C 8 29 dX6_share_8 (by decide) ?_ ?_
      · skip
        exact g_sub _ [0, 1, 2] rfl (hJ29 u1)
      · skip
        refine g_aload_n C 11 0 dX6_share_11 rfl ?_
        refine gfX_X6_court C 12 iX6 (List.mem_cons_of_mem _ (List.mem_append_right _ wgL_1_15.1)) dX6_share_12 ?_
        refine g_iload_n C 15 2 dX6_share_15 rfl ?_
        refine g_i2l C 16 dX6_share_16 ?_
        refine g_ldc2 C 17 10 (by decide +kernel) dX6_share_17 ?_
        refine g_lsub C 20 dX6_share_20 ?_
        refine g_callVi (st := []) (As := [.long ((Int32.toInt64 p2) - 10)]) C EX_ok EX_vm 21 1 1 (tX0_hasCase F 0 (by decide) ((Int32.toInt64 p2) - 10) u1) rfl gX6_share_X0_hasCase rfl rfl rfl (by decide +kernel) ⟨Nat.le_of_ble_eq_true rfl, Nat.le_of_ble_eq_true rfl⟩ (wX_X0 ad cI cZ _ 0 (by decide)) rfl rfl (Nat.le_of_ble_eq_true rfl) dX6_share_21 (fun r9 u8 => ?_)
        refine g_if_ne C 24 29 dX6_share_24 (by decide) ?_ ?_
        · skip
          exact g_sub _ [0, 1, 2] rfl (hJ29 u8)
        · skip
          refine g_iconst C 27 (-1) dX6_share_27 rfl ?_
          exact g_iret C 28 dX6_share_28
def pJ6_bitCount_0f7a4 (F : Nat) (p1 : Int32) (u : St) : Option (Int32 × St) :=
  vl (p1 - ((ushr p1 1) &&& 1431655765)) (fun v1 => vl ((v1 &&& 858993459) + ((ushr v1 2) &&& 858993459)) (fun v2 => vl ((v2 + (ushr v2 4)) &&& 252645135) (fun v3 => vl (v3 + (ushr v3 8)) (fun v4 => vl (v4 + (ushr v4 16)) (fun v5 => some ((v5 &&& 63), u))))))
set_option maxRecDepth 100000 in
set_option maxHeartbeats 4000000 in
theorem tJ6_bitCount_0f7a4 {l : Launch} {D : va_G} {cI cZ : ClassId} {ad : Nat → Nat} {tBURNS tFLAME_BOUNDS : Nat} {tS : Option Nat} {adK adV : Nat → Nat} (F : Nat) (p1 : Int32) (u : St) : CtI l D [(cI, .int), (cZ, .boolean)] (wX ad cI cZ) (EX tBURNS tFLAME_BOUNDS tS adK adV) yJ6_bitCount_0f7a4 wsJ6_bitCount_0f7a4 ({ frames := 0, cells := 0, slots := 0, locals := 0 } : Room) [.int p1] u (pJ6_bitCount_0f7a4 F p1 u) := by
  refine ctI_of (own := RJ6) (cc := cJ6_bitCount_0f7a4) (n := 1) (ret := (some .int)) (by decide) rfl rfl (Nat.le_of_ble_eq_true rfl) (lv := [(0, .int p1)]) rfl (fun C => ?_)
  rw [pJ6_bitCount_0f7a4]
  refine g_iload_n C 0 0 dJ6_bitCount_0f7a4_0 rfl ?_
  refine g_iload_n C 1 0 dJ6_bitCount_0f7a4_1 rfl ?_
  refine g_iconst C 2 1 dJ6_bitCount_0f7a4_2 rfl ?_
  refine g_iushr C 3 dJ6_bitCount_0f7a4_3 ?_
  refine g_ldcw C 4 1431655765 (by decide +kernel) dJ6_bitCount_0f7a4_4 ?_
  refine g_iand C 7 dJ6_bitCount_0f7a4_7 ?_
  refine g_isub C 8 dJ6_bitCount_0f7a4_8 ?_
  refine g_istore_nV C 9 (fun v1 => [(0, .int v1)]) dJ6_bitCount_0f7a4_9 (by decide) (fun _ => rfl) (fun v1 => ?_)
  refine g_iload_n C 10 0 dJ6_bitCount_0f7a4_10 rfl ?_
  refine g_ldcw C 11 858993459 (by decide +kernel) dJ6_bitCount_0f7a4_11 ?_
  refine g_iand C 14 dJ6_bitCount_0f7a4_14 ?_
  refine g_iload_n C 15 0 dJ6_bitCount_0f7a4_15 rfl ?_
  refine g_iconst C 16 2 dJ6_bitCount_0f7a4_16 rfl ?_
  refine g_iushr C 17 dJ6_bitCount_0f7a4_17 ?_
  refine g_ldcw C 18 858993459 (by decide +kernel) dJ6_bitCount_0f7a4_18 ?_
  refine g_iand C 21 dJ6_bitCount_0f7a4_21 ?_
  refine g_iadd C 22 dJ6_bitCount_0f7a4_22 ?_
  refine g_istore_nV C 23 (fun v2 => [(0, .int v2)]) dJ6_bitCount_0f7a4_23 (by decide) (fun _ => rfl) (fun v2 => ?_)
  refine g_iload_n C 24 0 dJ6_bitCount_0f7a4_24 rfl ?_
  refine g_iload_n C 25 0 dJ6_bitCount_0f7a4_25 rfl ?_
  refine g_iconst C 26 4 dJ6_bitCount_0f7a4_26 rfl ?_
  refine g_iushr C 27 dJ6_bitCount_0f7a4_27 ?_
  refine g_iadd C 28 dJ6_bitCount_0f7a4_28 ?_
  refine g_ldcw C 29 252645135 (by decide +kernel) dJ6_bitCount_0f7a4_29 ?_
  refine g_iand C 32 dJ6_bitCount_0f7a4_32 ?_
  refine g_istore_nV C 33 (fun v3 => [(0, .int v3)]) dJ6_bitCount_0f7a4_33 (by decide) (fun _ => rfl) (fun v3 => ?_)
  refine g_iload_n C 34 0 dJ6_bitCount_0f7a4_34 rfl ?_
  refine g_iload_n C 35 0 dJ6_bitCount_0f7a4_35 rfl ?_
  refine g_bipush C 36 8 dJ6_bitCount_0f7a4_36 rfl ?_
  refine g_iushr C 38 dJ6_bitCount_0f7a4_38 ?_
  refine g_iadd C 39 dJ6_bitCount_0f7a4_39 ?_
  refine g_istore_nV C 40 (fun v4 => [(0, .int v4)]) dJ6_bitCount_0f7a4_40 (by decide) (fun _ => rfl) (fun v4 => ?_)
  refine g_iload_n C 41 0 dJ6_bitCount_0f7a4_41 rfl ?_
  refine g_iload_n C 42 0 dJ6_bitCount_0f7a4_42 rfl ?_
  refine g_bipush C 43 16 dJ6_bitCount_0f7a4_43 rfl ?_
  refine g_iushr C 45 dJ6_bitCount_0f7a4_45 ?_
  refine g_iadd C 46 dJ6_bitCount_0f7a4_46 ?_
  refine g_istore_nV C 47 (fun v5 => [(0, .int v5)]) dJ6_bitCount_0f7a4_47 (by decide) (fun _ => rfl) (fun v5 => ?_)
  refine g_iload_n C 48 0 dJ6_bitCount_0f7a4_48 rfl ?_
  refine g_bipush C 49 63 dJ6_bitCount_0f7a4_49 rfl ?_
  refine g_iand C 51 dJ6_bitCount_0f7a4_51 ?_
  exact g_iret C 52 dJ6_bitCount_0f7a4_52
def pX6_wonByDocket (F : Nat) (p1 : Int32) (p2 : Int32) (u : St) : Option (Int32 × St) :=
  bd (pX3_goByDocket F p2 u) (fun (_ : Unit) (u1 : St) => bd (pX6_bitsOf F 59 (u1.1 0) (p1 + 1) u1) (fun (r3 : Int32) (u2 : St) => bd (pJ6_bitCount_0f7a4 F r3 u2) (fun (r5 : Int32) (u4 : St) => some (r5, u4))))
set_option maxRecDepth 100000 in
set_option maxHeartbeats 4000000 in
theorem tX6_wonByDocket {l : Launch} {D : va_G} {cI cZ : ClassId} {ad : Nat → Nat} {tBURNS tFLAME_BOUNDS : Nat} {tS : Option Nat} {adK adV : Nat → Nat} (F : Nat) (p1 : Int32) (p2 : Int32) (u : St) : CtI l D [(cI, .int), (cZ, .boolean)] (wX ad cI cZ) (EX tBURNS tFLAME_BOUNDS tS adK adV) yX6_wonByDocket wsX6_wonByDocket ({ frames := 4, cells := 0, slots := 0, locals := 87 } : Room) [.ref (ad 0), .int p1, .int p2] u (pX6_wonByDocket F p1 p2 u) := by
  refine ctI_of (own := RX6) (cc := cX6_wonByDocket) (n := 3) (ret := (some .int)) (by decide) rfl rfl (Nat.le_of_ble_eq_true rfl) (lv := [(0, .ref (ad 0)), (1, .int p1), (2, .int p2)]) rfl (fun C => ?_)
  have iX0 : ∀ w ∈ wsX00, w ∈ wsX6_wonByDocket := fun w h => List.mem_cons_of_mem _ (List.mem_append_right _ (inlX0 w h))
  have iX3 : ∀ w ∈ wsX30, w ∈ wsX6_wonByDocket := fun w h => List.mem_cons_of_mem _ (List.mem_append_right _ (inlX3 w h))
  have iX6 : ∀ w ∈ wsX60, w ∈ wsX6_wonByDocket := fun w h => List.mem_cons_of_mem _ (List.mem_append_right _ (inlX6 w h))
  rw [pX6_wonByDocket]
  refine g_aload_n C 0 0 dX6_wonByDocket_0 rfl ?_
  refine gfX_X6_round C 1 iX6 (List.mem_cons_of_mem _ (List.mem_append_right _ wgL_2_7.1)) dX6_wonByDocket_1 ?_
  refine g_aload_n C 4 0 dX6_wonByDocket_4 rfl ?_
  refine gfX_X6_court C 5 iX6 (List.mem_cons_of_mem _ (List.mem_append_right _ wgL_1_15.1)) dX6_wonByDocket_5 ?_
  refine g_aload_n C 8 0 dX6_wonByDocket_8 rfl ?_
  refine gfX_X6_trial C 9 iX6 (List.mem_cons_of_mem _ (List.mem_append_right _ wgL_2_3.1)) dX6_wonByDocket_9 ?_
  refine g_iload_n C 12 2 dX6_wonByDocket_12 rfl ?_
  refine g_callVv (st := []) (As := [.ref (ad 1), .ref (ad 6), .int p2]) C EX_ok EX_vm 13 7 3 (tX3_goByDocket F p2 u) rfl gX6_wonByDocket_X3_goByDocket rfl rfl rfl (by decide +kernel) ⟨Nat.le_of_ble_eq_true rfl, Nat.le_of_ble_eq_true rfl⟩ rfl rfl rfl (Nat.le_of_ble_eq_true rfl) dX6_wonByDocket_13 (fun u1 => ?_)
  refine g_aload_n C 16 0 dX6_wonByDocket_16 rfl ?_
  refine gfX_X6_round C 17 iX6 (List.mem_cons_of_mem _ (List.mem_append_right _ wgL_2_7.1)) dX6_wonByDocket_17 ?_
  refine gfX_X3_verdict C 20 iX3 (List.mem_cons_of_mem _ (List.mem_append_right _ wgL_30_0.1)) dX6_wonByDocket_20 ?_
  refine g_aload_n C 23 0 dX6_wonByDocket_23 rfl ?_
  refine gfX_X6_court C 24 iX6 (List.mem_cons_of_mem _ (List.mem_append_right _ wgL_1_15.1)) dX6_wonByDocket_24 ?_
  refine gfX_X0_cases 0 (by decide) C 27 iX0 (List.mem_cons_of_mem _ (List.mem_append_right _ wgL_18_5.1)) dX6_wonByDocket_27 ?_
  refine g_iload_n C 30 1 dX6_wonByDocket_30 rfl ?_
  refine g_iconst C 31 1 dX6_wonByDocket_31 rfl ?_
  refine g_iadd C 32 dX6_wonByDocket_32 ?_
  refine g_callSi (st := []) (As := [.ref (ad (10 + 59)), .int (u1.1 0), .int (p1 + 1)]) C EX_ok EX_vm 33 3 (tX6_bitsOf F 59 (by decide) (u1.1 0) (p1 + 1) u1) rfl gX6_wonByDocket_X6_bitsOf rfl rfl rfl (by decide +kernel) ⟨Nat.le_of_ble_eq_true rfl, Nat.le_of_ble_eq_true rfl⟩ rfl (Nat.le_of_ble_eq_true rfl) dX6_wonByDocket_33 (fun r3 u2 => ?_)
  refine g_callSi (st := []) (As := [.int r3]) C EX_ok EX_vm 36 1 (tJ6_bitCount_0f7a4 F r3 u2) rfl gX6_wonByDocket_J6_bitCount_0f7a4 rfl rfl rfl (by decide +kernel) ⟨Nat.le_of_ble_eq_true rfl, Nat.le_of_ble_eq_true rfl⟩ rfl (Nat.le_of_ble_eq_true rfl) dX6_wonByDocket_36 (fun r5 u4 => ?_)
  exact g_iret C 39 dX6_wonByDocket_39
def pX0_changeDocketJudges (F : Nat) (j : Nat) (p1 : Int32) (p2 : Int32) (u : St) : Option (Unit × St) :=
  gd (inb p1 6) (vl (u.2 (13 * j + 12) (Int32.toNatClampNeg p1)) (fun v1 => gd (inb p2 6) (gd (inb p1 6) (vl (sta u (13 * j + 12) p1 (u.2 (13 * j + 12) (Int32.toNatClampNeg p2))) (fun (u2 : St) => gd (inb p2 6) (vl (sta u2 (13 * j + 12) p2 v1) (fun (u3 : St) => some ((), u3))))))))
set_option maxRecDepth 100000 in
set_option maxHeartbeats 4000000 in
theorem tX0_changeDocketJudges {l : Launch} {D : va_G} {cI cZ : ClassId} {ad : Nat → Nat} {tBURNS tFLAME_BOUNDS : Nat} {tS : Option Nat} {adK adV : Nat → Nat} (F : Nat) (j : Nat) (hj : j < 4) (p1 : Int32) (p2 : Int32) (u : St) : CtV l D [(cI, .int), (cZ, .boolean)] (wX ad cI cZ) (EX tBURNS tFLAME_BOUNDS tS adK adV) yX0_changeDocketJudges wsX0_changeDocketJudges ({ frames := 0, cells := 0, slots := 0, locals := 0 } : Room) [.ref (ad (1 + j)), .int p1, .int p2] u (pX0_changeDocketJudges F j p1 p2 u) := by
  refine ctV_of (own := RX0) (cc := cX0_changeDocketJudges) (n := 4) (ret := none) (by decide) rfl rfl (Nat.le_of_ble_eq_true rfl) (lv := [(0, .ref (ad (1 + j))), (1, .int p1), (2, .int p2)]) rfl (fun C => ?_)
  have iX0 : ∀ w ∈ wsX00, w ∈ wsX0_changeDocketJudges := fun w h => List.mem_cons_of_mem _ (List.mem_append_right _ (inlX0 w h))
  rw [pX0_changeDocketJudges]
  refine g_aload_n C 0 0 dX0_changeDocketJudges_0 rfl ?_
  refine gfX_X0_docketJudge j hj C 1 iX0 (List.mem_cons_of_mem _ (List.mem_append_right _ wgL_3_15.1)) dX0_changeDocketJudges_1 ?_
  refine g_iload_n C 4 1 dX0_changeDocketJudges_4 rfl ?_
  refine g_iald C 5 (10 + (13 * j + 12)) 0 (wX_X0_docketJudge j hj) rfl dX0_changeDocketJudges_5 ?_
  refine g_istore_nV C 6 (fun v1 => [(3, .int v1), (0, .ref (ad (1 + j))), (1, .int p1), (2, .int p2)]) dX0_changeDocketJudges_6 (by decide) (fun _ => rfl) (fun v1 => ?_)
  refine g_aload_n C 7 1 dX0_changeDocketJudges_7 rfl ?_
  refine gfX_X0_docketJudge j hj C 8 iX0 (List.mem_cons_of_mem _ (List.mem_append_right _ wgL_3_15.1)) dX0_changeDocketJudges_8 ?_
  refine g_iload_n C 11 2 dX0_changeDocketJudges_11 rfl ?_
  refine g_aload_n C 12 1 dX0_changeDocketJudges_12 rfl ?_
  refine gfX_X0_docketJudge j hj C 13 iX0 (List.mem_cons_of_mem _ (List.mem_append_right _ wgL_3_15.1)) dX0_changeDocketJudges_13 ?_
  refine g_iload_n C 16 3 dX0_changeDocketJudges_16 rfl ?_
  refine g_iald C 17 (10 + (13 * j + 12)) 0 (wX_X0_docketJudge j hj) rfl dX0_changeDocketJudges_17 ?_
  refine g_iast C 18 (10 + (13 * j + 12)) 0 (13 * j + 12) (wX_X0_docketJudge j hj) (wX_X0_docketJudge_set j hj) rfl dX0_changeDocketJudges_18 (fun u2 => ?_)
  refine g_aload_n C 19 1 dX0_changeDocketJudges_19 rfl ?_
  refine gfX_X0_docketJudge j hj C 20 iX0 (List.mem_cons_of_mem _ (List.mem_append_right _ wgL_3_15.1)) dX0_changeDocketJudges_20 ?_
  refine g_iload_n C 23 3 dX0_changeDocketJudges_23 rfl ?_
  refine g_iload_n C 24 0 dX0_changeDocketJudges_24 rfl ?_
  refine g_iast C 25 (10 + (13 * j + 12)) 0 (13 * j + 12) (wX_X0_docketJudge j hj) (wX_X0_docketJudge_set j hj) rfl dX0_changeDocketJudges_25 (fun u3 => ?_)
  exact g_vret C 26 dX0_changeDocketJudges_26
def jX6_swap_124 (F : Nat) (p2 : Int32) (a7 : Int32) (a8 : Int32) (u9 : St) : Option (Int32 × St) :=
  if a8 = (-4) then some (a8, u9) else if p2 = 0 then some (a8, u9) else some (a7, u9)
def jX6_swap_118 (F : Nat) (x12 : Int32) (self14 : Int32 → Int32 → Int32 → St → Option (Int32 × St)) (a16 : Int32) (a17 : Int32) (u18 : St) : Option (Int32 × St) :=
  (self14 a16 a17 (x12 + 1) u18)
def bX6_swap_51 (F : Nat) (p1 : Int32) (x12 : Int32) (J118 : Int32 → Int32 → St → Option (Int32 × St)) (self23 : Int32 → Int32 → Int32 → St → Option (Int32 × St)) (x19 : Int32) (x20 : Int32) (x21 : Int32) (u22 : St) : Option (Int32 × St) :=
  if (u22.1 3) ≤ x21 then (J118 x19 x20 u22) else bd (pX0_changeDocketJudges F 0 x12 x21 u22) (fun (_ : Unit) (u24 : St) => bd (pX6_wonByDocket F p1 0 u24) (fun (r26 : Int32) (u25 : St) => bd (pX0_changeDocketJudges F 0 x12 x21 u25) (fun (_ : Unit) (u27 : St) => jn (fun (a28 : Int32) (a29 : Int32) (u30 : St) => (self23 a28 a29 (x21 + 1) u30)) (fun (J112 : Int32 → Int32 → St → Option (Int32 × St)) => if r26 ≤ x19 then (J112 x19 x20 u27) else vl ((10 * x12) + x21) (fun v31 => (J112 r26 v31 u27))))))
def bX6_swap_33 (F : Nat) (p1 : Int32) (J124 : Int32 → Int32 → St → Option (Int32 × St)) (self14 : Int32 → Int32 → Int32 → St → Option (Int32 × St)) (x10 : Int32) (x11 : Int32) (x12 : Int32) (u13 : St) : Option (Int32 × St) :=
  if (u13.1 3) ≤ x12 then (J124 x10 x11 u13) else vl (x12 + 1) (fun v15 => jn (jX6_swap_118 F x12 self14) (fun (J118 : Int32 → Int32 → St → Option (Int32 × St)) => (lq3 (bX6_swap_51 F p1 x12 J118) F x10 x11 v15 u13)))
def pX6_swap (F : Nat) (p1 : Int32) (p2 : Int32) (u : St) : Option (Int32 × St) :=
  bd (pX6_isSide F p1 u) (fun (r2 : Int32) (u1 : St) => if r2 = 0 then some ((-1), u1) else bd (pX6_isIn F (Int32.toInt64 p2) 0 1 u1) (fun (r4 : Int32) (u3 : St) => if r4 = 0 then some ((-1), u3) else bd (pX6_wonByDocket F p1 0 u3) (fun (r6 : Int32) (u5 : St) => jn (jX6_swap_124 F p2) (fun (J124 : Int32 → Int32 → St → Option (Int32 × St)) => (lq3 (bX6_swap_33 F p1 J124) F r6 (-4) 0 u5)))))
set_option maxRecDepth 100000 in
set_option maxHeartbeats 4000000 in
theorem tX6_swap {l : Launch} {D : va_G} {cI cZ : ClassId} {ad : Nat → Nat} {tBURNS tFLAME_BOUNDS : Nat} {tS : Option Nat} {adK adV : Nat → Nat} (F : Nat) (p1 : Int32) (p2 : Int32) (u : St) : CtI l D [(cI, .int), (cZ, .boolean)] (wX ad cI cZ) (EX tBURNS tFLAME_BOUNDS tS adK adV) yX6_swap wsX6_swap ({ frames := 5, cells := 0, slots := 0, locals := 109 } : Room) [.ref (ad 0), .int p1, .int p2] u (pX6_swap F p1 p2 u) := by
  refine ctI_of (own := RX6) (cc := cX6_swap) (n := 8) (ret := (some .int)) (by decide) rfl rfl (Nat.le_of_ble_eq_true rfl) (lv := [(0, .ref (ad 0)), (1, .int p1), (2, .int p2)]) rfl (fun C => ?_)
  have iX0 : ∀ w ∈ wsX00, w ∈ wsX6_swap := fun w h => List.mem_cons_of_mem _ (List.mem_append_right _ (inlX0 w h))
  have iX6 : ∀ w ∈ wsX60, w ∈ wsX6_swap := fun w h => List.mem_cons_of_mem _ (List.mem_append_right _ (inlX6 w h))
  rw [pX6_swap]
  refine g_iload_n C 0 1 dX6_swap_0 rfl ?_
  refine g_callSi (st := []) (As := [.int p1]) C EX_ok EX_vm 1 1 (tX6_isSide F p1 u) rfl gX6_swap_X6_isSide rfl rfl rfl (by decide +kernel) ⟨Nat.le_of_ble_eq_true rfl, Nat.le_of_ble_eq_true rfl⟩ rfl (Nat.le_of_ble_eq_true rfl) dX6_swap_1 (fun r2 u1 => ?_)
  refine g_if_eq C 4 17 dX6_swap_4 (by decide) ?_ ?_
  · skip
    refine g_iconst C 17 (-1) dX6_swap_17 rfl ?_
    exact g_iret C 18 dX6_swap_18
  · skip
    refine g_iload_n C 7 2 dX6_swap_7 rfl ?_
    refine g_i2l C 8 dX6_swap_8 ?_
    refine g_iconst C 9 0 dX6_swap_9 rfl ?_
    refine g_iconst C 10 1 dX6_swap_10 rfl ?_
    refine g_callSi (st := []) (As := [.long (Int32.toInt64 p2), .int 0, .int 1]) C EX_ok EX_vm 11 3 (tX6_isIn F (Int32.toInt64 p2) 0 1 u1) rfl gX6_swap_X6_isIn rfl rfl rfl (by decide +kernel) ⟨Nat.le_of_ble_eq_true rfl, Nat.le_of_ble_eq_true rfl⟩ rfl (Nat.le_of_ble_eq_true rfl) dX6_swap_11 (fun r4 u3 => ?_)
    refine g_if_ne C 14 19 dX6_swap_14 (by decide) ?_ ?_
    · skip
      refine g_aload_n C 19 0 dX6_swap_19 rfl ?_
      refine g_iload_n C 20 1 dX6_swap_20 rfl ?_
      refine g_iconst C 21 0 dX6_swap_21 rfl ?_
      refine g_callVi (st := []) (As := [.int p1, .int 0]) C EX_ok EX_vm 22 0 2 (tX6_wonByDocket F p1 0 u3) rfl gX6_swap_X6_wonByDocket rfl rfl rfl (by decide +kernel) ⟨Nat.le_of_ble_eq_true rfl, Nat.le_of_ble_eq_true rfl⟩ rfl rfl rfl (Nat.le_of_ble_eq_true rfl) dX6_swap_22 (fun r6 u5 => ?_)
      refine g_istore_n C 25 [(3, .int r6), (0, .ref (ad 0)), (1, .int p1), (2, .int p2)] dX6_swap_25 (by decide) rfl ?_
      refine g_bipush C 26 (-4) dX6_swap_26 rfl ?_
      refine g_istore C 28 [(4, .int (-4)), (3, .int r6), (0, .ref (ad 0)), (1, .int p1), (2, .int p2)] dX6_swap_28 (by decide) rfl ?_
      refine g_iconst C 30 0 dX6_swap_30 rfl ?_
      refine g_istore C 31 [(5, .int 0), (4, .int (-4)), (3, .int r6), (0, .ref (ad 0)), (1, .int p1), (2, .int p2)] dX6_swap_31 (by decide) rfl ?_
      refine g_jn2 124 (fun (a7 : Int32) (a8 : Int32) => [(2, .int p2), (3, .int a7), (4, .int a8)]) (fun (a7 : Int32) (a8 : Int32) => []) (fun a7 a8 u9 => ?_) (fun J124 hJ124 => ?_)
      · skip
        rw [jX6_swap_124]
        refine g_iload C 124 2 dX6_swap_124 rfl ?_
        refine g_bipush C 126 (-4) dX6_swap_126 rfl ?_
        refine g_icmp_eq C 128 135 dX6_swap_128 (by decide) ?_ ?_
        · skip
          refine g_iload C 135 2 dX6_swap_135 rfl ?_
          refine g_goto C 137 141 dX6_swap_137 (by decide) ?_
          exact g_iret C 141 dX6_swap_141
        · skip
          refine g_iload_n C 131 0 dX6_swap_131 rfl ?_
          refine g_if_ne C 132 140 dX6_swap_132 (by decide) ?_ ?_
          · skip
            refine g_iload_n C 140 1 dX6_swap_140 rfl ?_
            exact g_iret C 141 dX6_swap_141
          · skip
            refine g_iload C 135 2 dX6_swap_135 rfl ?_
            refine g_goto C 137 141 dX6_swap_137 (by decide) ?_
            exact g_iret C 141 dX6_swap_141
      · skip
        refine g_sub _ [3, 4, 5, 2, 1, 0] rfl ?_
        refine g_lq3 (fun (x10 : Int32) (x11 : Int32) (x12 : Int32) => [(0, .ref (ad 0)), (1, .int p1), (2, .int p2), (3, .int x10), (4, .int x11), (5, .int x12)]) (fun self14 hself14 x10 x11 x12 u13 => ?_) F r6 (-4) 0 u5
        rw [bX6_swap_33]
        refine g_iload C 33 5 dX6_swap_33 rfl ?_
        refine g_aload_n C 35 0 dX6_swap_35 rfl ?_
        refine gfX_X6_court C 36 iX6 (List.mem_cons_of_mem _ (List.mem_append_right _ wgL_1_15.1)) dX6_swap_36 ?_
        refine gfX_X0_hearings 0 (by decide) C 39 iX0 (List.mem_cons_of_mem _ (List.mem_append_right _ wgL_18_8.1)) dX6_swap_39 ?_
        refine g_icmp_ge C 42 124 dX6_swap_42 (by decide) ?_ ?_
        · skip
          exact g_sub _ [2, 3, 4] rfl (hJ124 x10 x11 u13)
        · skip
          refine g_iload C 45 5 dX6_swap_45 rfl ?_
          refine g_iconst C 47 1 dX6_swap_47 rfl ?_
          refine g_iadd C 48 dX6_swap_48 ?_
          refine g_istoreV C 49 (fun v15 => [(6, .int v15), (0, .ref (ad 0)), (1, .int p1), (2, .int p2), (3, .int x10), (4, .int x11), (5, .int x12)]) dX6_swap_49 (by decide) (fun _ => rfl) (fun v15 => ?_)
          refine g_jn2 118 (fun (a16 : Int32) (a17 : Int32) => [(0, .ref (ad 0)), (1, .int p1), (2, .int p2), (3, .int a16), (4, .int a17), (5, .int x12)]) (fun (a16 : Int32) (a17 : Int32) => []) (fun a16 a17 u18 => ?_) (fun J118 hJ118 => ?_)
          · skip
            rw [jX6_swap_118]
            refine g_iinc C 118 5 [(5, .int (x12 + 1)), (0, .ref (ad 0)), (1, .int p1), (2, .int p2), (3, .int a16), (4, .int a17)] dX6_swap_118 rfl rfl (by decide) rfl ?_
            refine g_goto C 121 33 dX6_swap_121 (by decide) ?_
            exact g_sub _ [1, 2, 3, 4, 5, 0] rfl (hself14 a16 a17 (x12 + 1) u18)
          · skip
            refine g_sub _ [1, 2, 3, 4, 5, 6, 0] rfl ?_
            refine g_lq3 (fun (x19 : Int32) (x20 : Int32) (x21 : Int32) => [(0, .ref (ad 0)), (1, .int p1), (2, .int p2), (3, .int x19), (4, .int x20), (5, .int x12), (6, .int x21)]) (fun self23 hself23 x19 x20 x21 u22 => ?_) F x10 x11 v15 u13
            rw [bX6_swap_51]
            refine g_iload C 51 6 dX6_swap_51 rfl ?_
            refine g_aload_n C 53 0 dX6_swap_53 rfl ?_
            refine gfX_X6_court C 54 iX6 (List.mem_cons_of_mem _ (List.mem_append_right _ wgL_1_15.1)) dX6_swap_54 ?_
            refine gfX_X0_hearings 0 (by decide) C 57 iX0 (List.mem_cons_of_mem _ (List.mem_append_right _ wgL_18_8.1)) dX6_swap_57 ?_
            refine g_icmp_ge C 60 118 dX6_swap_60 (by decide) ?_ ?_
            · skip
              exact g_sub _ [0, 1, 2, 3, 4, 5] rfl (hJ118 x19 x20 u22)
            · skip
              refine g_aload_n C 63 0 dX6_swap_63 rfl ?_
              refine gfX_X6_court C 64 iX6 (List.mem_cons_of_mem _ (List.mem_append_right _ wgL_1_15.1)) dX6_swap_64 ?_
              refine g_iload C 67 5 dX6_swap_67 rfl ?_
              refine g_iload C 69 6 dX6_swap_69 rfl ?_
              refine g_callVv (st := []) (As := [.int x12, .int x21]) C EX_ok EX_vm 71 1 2 (tX0_changeDocketJudges F 0 (by decide) x12 x21 u22) rfl gX6_swap_X0_changeDocketJudges rfl rfl rfl (by decide +kernel) ⟨Nat.le_of_ble_eq_true rfl, Nat.le_of_ble_eq_true rfl⟩ (wX_X0 ad cI cZ _ 0 (by decide)) rfl rfl (Nat.le_of_ble_eq_true rfl) dX6_swap_71 (fun u24 => ?_)
              refine g_aload_n C 74 0 dX6_swap_74 rfl ?_
              refine g_iload_n C 75 1 dX6_swap_75 rfl ?_
              refine g_iconst C 76 0 dX6_swap_76 rfl ?_
              refine g_callVi (st := []) (As := [.int p1, .int 0]) C EX_ok EX_vm 77 0 2 (tX6_wonByDocket F p1 0 u24) rfl gX6_swap_X6_wonByDocket rfl rfl rfl (by decide +kernel) ⟨Nat.le_of_ble_eq_true rfl, Nat.le_of_ble_eq_true rfl⟩ rfl rfl rfl (Nat.le_of_ble_eq_true rfl) dX6_swap_77 (fun r26 u25 => ?_)
              refine g_istore C 80 [(7, .int r26), (0, .ref (ad 0)), (1, .int p1), (2, .int p2), (3, .int x19), (4, .int x20), (5, .int x12), (6, .int x21)] dX6_swap_80 (by decide) rfl ?_
              refine g_aload_n C 82 1 dX6_swap_82 rfl ?_
              refine gfX_X6_court C 83 iX6 (List.mem_cons_of_mem _ (List.mem_append_right _ wgL_1_15.1)) dX6_swap_83 ?_
              refine g_iload C 86 6 dX6_swap_86 rfl ?_
              refine g_iload C 88 7 dX6_swap_88 rfl ?_
              refine g_callVv (st := []) (As := [.int x12, .int x21]) C EX_ok EX_vm 90 1 2 (tX0_changeDocketJudges F 0 (by decide) x12 x21 u25) rfl gX6_swap_X0_changeDocketJudges rfl rfl rfl (by decide +kernel) ⟨Nat.le_of_ble_eq_true rfl, Nat.le_of_ble_eq_true rfl⟩ (wX_X0 ad cI cZ _ 0 (by decide)) rfl rfl (Nat.le_of_ble_eq_true rfl) dX6_swap_90 (fun u27 => ?_)
              refine g_iload C 93 0 dX6_swap_93 rfl ?_
              refine g_iload_n C 95 4 dX6_swap_95 rfl ?_
              refine g_jn2 112 (fun (a28 : Int32) (a29 : Int32) => [(0, .ref (ad 0)), (1, .int p1), (2, .int p2), (3, .int a28), (4, .int a29), (5, .int x12), (6, .int x21)]) (fun (a28 : Int32) (a29 : Int32) => []) (fun a28 a29 u30 => ?_) (fun J112 hJ112 => ?_)
              · skip
                refine g_iinc C 112 6 [(6, .int (x21 + 1)), (0, .ref (ad 0)), (1, .int p1), (2, .int p2), (3, .int a28), (4, .int a29), (5, .int x12)] dX6_swap_112 rfl rfl (by decide) rfl ?_
                refine g_goto C 115 51 dX6_swap_115 (by decide) ?_
                exact g_sub _ [1, 2, 3, 4, 5, 6, 0] rfl (hself23 a28 a29 (x21 + 1) u30)
              · skip
                refine g_icmp_le C 96 112 dX6_swap_96 (by decide) ?_ ?_
                · skip
                  exact g_sub _ [1, 2, 3, 4, 5, 6, 7] rfl (hJ112 x19 x20 u27)
                · skip
                  refine g_iload C 99 0 dX6_swap_99 rfl ?_
                  refine g_istore_n C 101 [(3, .int r26), (7, .int r26), (0, .ref (ad 0)), (1, .int p1), (2, .int p2), (4, .int x20), (5, .int x12), (6, .int x21)] dX6_swap_101 (by decide) rfl ?_
                  refine g_bipush C 102 10 dX6_swap_102 rfl ?_
                  refine g_iload C 104 6 dX6_swap_104 rfl ?_
                  refine g_imul C 106 dX6_swap_106 ?_
                  refine g_iload C 107 7 dX6_swap_107 rfl ?_
                  refine g_iadd C 109 dX6_swap_109 ?_
                  refine g_istoreV C 110 (fun v31 => [(4, .int v31), (3, .int r26), (7, .int r26), (0, .ref (ad 0)), (1, .int p1), (2, .int p2), (5, .int x12), (6, .int x21)]) dX6_swap_110 (by decide) (fun _ => rfl) (fun v31 => ?_)
                  exact g_sub _ [3, 4, 5, 1, 0, 6, 7] rfl (hJ112 r26 v31 u27)
    · skip
      refine g_iconst C 17 (-1) dX6_swap_17 rfl ?_
      exact g_iret C 18 dX6_swap_18
def bX6_weightOf_5 (F : Nat) (p1 : Int32) (p2 : Int32) (self4 : Int64 → Int32 → St → Option (Int64 × St)) (x1 : Int64) (x2 : Int32) (u3 : St) : Option (Int64 × St) :=
  if (u3.1 2) ≤ x2 then some (x1, u3) else jn (fun (a5 : Int64) (u6 : St) => vl (x1 * a5) (fun v7 => (self4 v7 (x2 + 1) u6))) (fun (J37 : Int64 → St → Option (Int64 × St)) => if ((p2 >>> (x2 &&& 31)) &&& 1) = 0 then (J37 (Int32.toInt64 (10 - p1)) u3) else (J37 (Int32.toInt64 p1) u3))
def pX6_weightOf (F : Nat) (p1 : Int32) (p2 : Int32) (u : St) : Option (Int64 × St) :=
  (lq2 (bX6_weightOf_5 F p1 p2) F 1 0 u)
set_option maxRecDepth 100000 in
set_option maxHeartbeats 4000000 in
theorem tX6_weightOf {l : Launch} {D : va_G} {cI cZ : ClassId} {ad : Nat → Nat} {tBURNS tFLAME_BOUNDS : Nat} {tS : Option Nat} {adK adV : Nat → Nat} (F : Nat) (p1 : Int32) (p2 : Int32) (u : St) : CtL l D [(cI, .int), (cZ, .boolean)] (wX ad cI cZ) (EX tBURNS tFLAME_BOUNDS tS adK adV) yX6_weightOf wsX6_weightOf ({ frames := 0, cells := 0, slots := 0, locals := 0 } : Room) [.ref (ad 0), .int p1, .int p2] u (pX6_weightOf F p1 p2 u) := by
  refine ctL_of (own := RX6) (cc := cX6_weightOf) (n := 6) (ret := (some .long)) (by decide) rfl rfl (Nat.le_of_ble_eq_true rfl) (lv := [(0, .ref (ad 0)), (1, .int p1), (2, .int p2)]) rfl (fun C => ?_)
  have iX0 : ∀ w ∈ wsX00, w ∈ wsX6_weightOf := fun w h => List.mem_cons_of_mem _ (List.mem_append_right _ (inlX0 w h))
  have iX6 : ∀ w ∈ wsX60, w ∈ wsX6_weightOf := fun w h => List.mem_cons_of_mem _ (List.mem_append_right _ (inlX6 w h))
  rw [pX6_weightOf]
  refine g_lconst C 0 1 dX6_weightOf_0 rfl ?_
  refine g_lstore_n C 1 [(3, .long 1), (0, .ref (ad 0)), (1, .int p1), (2, .int p2)] dX6_weightOf_1 (by decide) rfl ?_
  refine g_iconst C 2 0 dX6_weightOf_2 rfl ?_
  refine g_istore C 3 [(5, .int 0), (3, .long 1), (0, .ref (ad 0)), (1, .int p1), (2, .int p2)] dX6_weightOf_3 (by decide) rfl ?_
  refine g_sub _ [2, 3, 4, 1, 0] rfl ?_
  refine g_lq2 (fun (x1 : Int64) (x2 : Int32) => [(0, .ref (ad 0)), (1, .int p1), (2, .int p2), (3, .long x1), (5, .int x2)]) (fun self4 hself4 x1 x2 u3 => ?_) F 1 0 u
  rw [bX6_weightOf_5]
  refine g_iload C 5 4 dX6_weightOf_5 rfl ?_
  refine g_aload_n C 7 0 dX6_weightOf_7 rfl ?_
  refine gfX_X6_court C 8 iX6 (List.mem_cons_of_mem _ (List.mem_append_right _ wgL_1_15.1)) dX6_weightOf_8 ?_
  refine gfX_X0_draughts 0 (by decide) C 11 iX0 (List.mem_cons_of_mem _ (List.mem_append_right _ wgL_18_7.1)) dX6_weightOf_11 ?_
  refine g_icmp_ge C 14 45 dX6_weightOf_14 (by decide) ?_ ?_
  · skip
    refine g_lload_n C 45 3 dX6_weightOf_45 rfl ?_
    exact g_lret C 46 dX6_weightOf_46
  · skip
    refine g_lload_n C 17 3 dX6_weightOf_17 rfl ?_
    refine g_iload_n C 18 2 dX6_weightOf_18 rfl ?_
    refine g_iload C 19 4 dX6_weightOf_19 rfl ?_
    refine g_ishr C 21 dX6_weightOf_21 ?_
    refine g_iconst C 22 1 dX6_weightOf_22 rfl ?_
    refine g_iand C 23 dX6_weightOf_23 ?_
    refine g_jn1 37 (fun (a5 : Int64) => [(0, .ref (ad 0)), (1, .int p1), (2, .int p2), (5, .int x2)]) (fun (a5 : Int64) => [.long a5, .long x1]) (fun a5 u6 => ?_) (fun J37 hJ37 => ?_)
    · skip
      refine g_lmul C 37 dX6_weightOf_37 ?_
      refine g_lstore_nV C 38 (fun v7 => [(3, .long v7), (0, .ref (ad 0)), (1, .int p1), (2, .int p2), (5, .int x2)]) dX6_weightOf_38 (by decide) (fun _ => rfl) (fun v7 => ?_)
      refine g_iinc C 39 4 [(5, .int (x2 + 1)), (3, .long v7), (0, .ref (ad 0)), (1, .int p1), (2, .int p2)] dX6_weightOf_39 rfl rfl (by decide) rfl ?_
      refine g_goto C 42 5 dX6_weightOf_42 (by decide) ?_
      exact g_sub _ [2, 3, 4, 1, 0] rfl (hself4 v7 (x2 + 1) u6)
    · skip
      refine g_if_eq C 24 32 dX6_weightOf_24 (by decide) ?_ ?_
      · skip
        refine g_bipush C 32 10 dX6_weightOf_32 rfl ?_
        refine g_iload_n C 34 1 dX6_weightOf_34 rfl ?_
        refine g_isub C 35 dX6_weightOf_35 ?_
        refine g_i2l C 36 dX6_weightOf_36 ?_
        exact g_sub _ [0, 1, 2, 4] rfl (hJ37 (Int32.toInt64 (10 - p1)) u3)
      · skip
        refine g_iload_n C 27 1 dX6_weightOf_27 rfl ?_
        refine g_i2l C 28 dX6_weightOf_28 ?_
        refine g_goto C 29 37 dX6_weightOf_29 (by decide) ?_
        exact g_sub _ [0, 1, 2, 4] rfl (hJ37 (Int32.toInt64 p1) u3)
def bX6_tenths_4 (F : Nat)  (self4 : Int64 → Int32 → St → Option (Int64 × St)) (x1 : Int64) (x2 : Int32) (u3 : St) : Option (Int64 × St) :=
  if (u3.1 2) ≤ x2 then some (x1, u3) else vl (x1 * 10) (fun v5 => (self4 v5 (x2 + 1) u3))
def pX6_tenths (F : Nat)  (u : St) : Option (Int64 × St) :=
  (lq2 (bX6_tenths_4 F) F 1 0 u)
set_option maxRecDepth 100000 in
set_option maxHeartbeats 4000000 in
theorem tX6_tenths {l : Launch} {D : va_G} {cI cZ : ClassId} {ad : Nat → Nat} {tBURNS tFLAME_BOUNDS : Nat} {tS : Option Nat} {adK adV : Nat → Nat} (F : Nat)  (u : St) : CtL l D [(cI, .int), (cZ, .boolean)] (wX ad cI cZ) (EX tBURNS tFLAME_BOUNDS tS adK adV) yX6_tenths wsX6_tenths ({ frames := 0, cells := 0, slots := 0, locals := 0 } : Room) [.ref (ad 0)] u (pX6_tenths F u) := by
  refine ctL_of (own := RX6) (cc := cX6_tenths) (n := 4) (ret := (some .long)) (by decide) rfl rfl (Nat.le_of_ble_eq_true rfl) (lv := [(0, .ref (ad 0))]) rfl (fun C => ?_)
  have iX0 : ∀ w ∈ wsX00, w ∈ wsX6_tenths := fun w h => List.mem_cons_of_mem _ (List.mem_append_right _ (inlX0 w h))
  have iX6 : ∀ w ∈ wsX60, w ∈ wsX6_tenths := fun w h => List.mem_cons_of_mem _ (List.mem_append_right _ (inlX6 w h))
  rw [pX6_tenths]
  refine g_lconst C 0 1 dX6_tenths_0 rfl ?_
  refine g_lstore_n C 1 [(1, .long 1), (0, .ref (ad 0))] dX6_tenths_1 (by decide) rfl ?_
  refine g_iconst C 2 0 dX6_tenths_2 rfl ?_
  refine g_istore_n C 3 [(3, .int 0), (1, .long 1), (0, .ref (ad 0))] dX6_tenths_3 (by decide) rfl ?_
  refine g_sub _ [2, 1, 0] rfl ?_
  refine g_lq2 (fun (x1 : Int64) (x2 : Int32) => [(0, .ref (ad 0)), (1, .long x1), (3, .int x2)]) (fun self4 hself4 x1 x2 u3 => ?_) F 1 0 u
  rw [bX6_tenths_4]
  refine g_iload_n C 4 2 dX6_tenths_4 rfl ?_
  refine g_aload_n C 5 0 dX6_tenths_5 rfl ?_
  refine gfX_X6_court C 6 iX6 (List.mem_cons_of_mem _ (List.mem_append_right _ wgL_1_15.1)) dX6_tenths_6 ?_
  refine gfX_X0_draughts 0 (by decide) C 9 iX0 (List.mem_cons_of_mem _ (List.mem_append_right _ wgL_18_7.1)) dX6_tenths_9 ?_
  refine g_icmp_ge C 12 27 dX6_tenths_12 (by decide) ?_ ?_
  · skip
    refine g_lload_n C 27 1 dX6_tenths_27 rfl ?_
    exact g_lret C 28 dX6_tenths_28
  · skip
    refine g_lload_n C 15 1 dX6_tenths_15 rfl ?_
    refine g_ldc2 C 16 10 (by decide +kernel) dX6_tenths_16 ?_
    refine g_lmul C 19 dX6_tenths_19 ?_
    refine g_lstore_nV C 20 (fun v5 => [(1, .long v5), (0, .ref (ad 0)), (3, .int x2)]) dX6_tenths_20 (by decide) (fun _ => rfl) (fun v5 => ?_)
    refine g_iinc C 21 2 [(3, .int (x2 + 1)), (1, .long v5), (0, .ref (ad 0))] dX6_tenths_21 rfl rfl (by decide) rfl ?_
    refine g_goto C 24 4 dX6_tenths_24 (by decide) ?_
    exact g_sub _ [2, 1, 0] rfl (hself4 v5 (x2 + 1) u3)
def jX6_inLowestTerms_44 (F : Nat) (p1 : Int64) (p2 : Int64) (p3 : Int32) (a1 : Int64) (u2 : St) : Option (Int64 × St) :=
  if 0 < (lg_cmp a1 0) then if p3 = 0 then gd (nzl a1) (some ((p1 / a1), u2)) else gd (nzl a1) (some ((p2 / a1), u2)) else some ((-1), u2)
def bX6_inLowestTerms_9 (F : Nat) (J44 : Int64 → St → Option (Int64 × St)) (self7 : Int64 → Int64 → Int32 → St → Option (Int64 × St)) (x3 : Int64) (x4 : Int64) (x5 : Int32) (u6 : St) : Option (Int64 × St) :=
  if 100 ≤ x5 then (J44 x3 u6) else if (lg_cmp x4 0) = 0 then (J44 x3 u6) else gd (nzl x4) (vl (lrm x3 x4) (fun v8 => (self7 x4 v8 (x5 + 1) u6)))
def pX6_inLowestTerms (F : Nat) (p1 : Int64) (p2 : Int64) (p3 : Int32) (u : St) : Option (Int64 × St) :=
  jn (jX6_inLowestTerms_44 F p1 p2 p3) (fun (J44 : Int64 → St → Option (Int64 × St)) => (lq3 (bX6_inLowestTerms_9 F J44) F p2 p1 0 u))
set_option maxRecDepth 100000 in
set_option maxHeartbeats 4000000 in
theorem tX6_inLowestTerms {l : Launch} {D : va_G} {cI cZ : ClassId} {ad : Nat → Nat} {tBURNS tFLAME_BOUNDS : Nat} {tS : Option Nat} {adK adV : Nat → Nat} (F : Nat) (p1 : Int64) (p2 : Int64) (p3 : Int32) (u : St) : CtL l D [(cI, .int), (cZ, .boolean)] (wX ad cI cZ) (EX tBURNS tFLAME_BOUNDS tS adK adV) yX6_inLowestTerms wsX6_inLowestTerms ({ frames := 0, cells := 0, slots := 0, locals := 0 } : Room) [.long p1, .long p2, .int p3] u (pX6_inLowestTerms F p1 p2 p3 u) := by
  refine ctL_of (own := RX6) (cc := cX6_inLowestTerms) (n := 12) (ret := (some .long)) (by decide) rfl rfl (Nat.le_of_ble_eq_true rfl) (lv := [(0, .long p1), (2, .long p2), (4, .int p3)]) rfl (fun C => ?_)
  rw [pX6_inLowestTerms]
  refine g_lload_n C 0 1 dX6_inLowestTerms_0 rfl ?_
  refine g_lstore C 1 [(5, .long p2), (0, .long p1), (2, .long p2), (4, .int p3)] dX6_inLowestTerms_1 (by decide) rfl ?_
  refine g_lload_n C 3 1 dX6_inLowestTerms_3 rfl ?_
  refine g_lstore C 4 [(7, .long p1), (5, .long p2), (0, .long p1), (2, .long p2), (4, .int p3)] dX6_inLowestTerms_4 (by decide) rfl ?_
  refine g_iconst C 6 0 dX6_inLowestTerms_6 rfl ?_
  refine g_istore C 7 [(9, .int 0), (7, .long p1), (5, .long p2), (0, .long p1), (2, .long p2), (4, .int p3)] dX6_inLowestTerms_7 (by decide) rfl ?_
  refine g_jn1 44 (fun (a1 : Int64) => [(0, .long p1), (2, .long p2), (4, .int p3), (5, .long a1)]) (fun (a1 : Int64) => []) (fun a1 u2 => ?_) (fun J44 hJ44 => ?_)
  · skip
    rw [jX6_inLowestTerms_44]
    refine g_lload C 44 3 dX6_inLowestTerms_44 rfl ?_
    refine g_lconst C 46 0 dX6_inLowestTerms_46 rfl ?_
    refine g_lcmp C 47 dX6_inLowestTerms_47 ?_
    refine g_if_gt C 48 55 dX6_inLowestTerms_48 (by decide) ?_ ?_
    · skip
      refine g_iload C 55 2 dX6_inLowestTerms_55 rfl ?_
      refine g_if_ne C 57 64 dX6_inLowestTerms_57 (by decide) ?_ ?_
      · skip
        refine g_lload_n C 64 1 dX6_inLowestTerms_64 rfl ?_
        refine g_lload C 65 3 dX6_inLowestTerms_65 rfl ?_
        refine g_ldiv C 67 dX6_inLowestTerms_67 ?_
        exact g_lret C 68 dX6_inLowestTerms_68
      · skip
        refine g_lload_n C 60 0 dX6_inLowestTerms_60 rfl ?_
        refine g_goto C 61 65 dX6_inLowestTerms_61 (by decide) ?_
        refine g_lload C 65 3 dX6_inLowestTerms_65 rfl ?_
        refine g_ldiv C 67 dX6_inLowestTerms_67 ?_
        exact g_lret C 68 dX6_inLowestTerms_68
    · skip
      refine g_ldc2 C 51 (-1) (by decide +kernel) dX6_inLowestTerms_51 ?_
      exact g_lret C 54 dX6_inLowestTerms_54
  · skip
    refine g_sub _ [3, 4, 5, 2, 1, 0] rfl ?_
    refine g_lq3 (fun (x3 : Int64) (x4 : Int64) (x5 : Int32) => [(0, .long p1), (2, .long p2), (4, .int p3), (5, .long x3), (7, .long x4), (9, .int x5)]) (fun self7 hself7 x3 x4 x5 u6 => ?_) F p2 p1 0 u
    rw [bX6_inLowestTerms_9]
    refine g_iload C 9 5 dX6_inLowestTerms_9 rfl ?_
    refine g_bipush C 11 100 dX6_inLowestTerms_11 rfl ?_
    refine g_icmp_ge C 13 44 dX6_inLowestTerms_13 (by decide) ?_ ?_
    · skip
      exact g_sub _ [0, 1, 2, 3] rfl (hJ44 x3 u6)
    · skip
      refine g_lload C 16 4 dX6_inLowestTerms_16 rfl ?_
      refine g_lconst C 18 0 dX6_inLowestTerms_18 rfl ?_
      refine g_lcmp C 19 dX6_inLowestTerms_19 ?_
      refine g_if_eq C 20 44 dX6_inLowestTerms_20 (by decide) ?_ ?_
      · skip
        exact g_sub _ [0, 1, 2, 3] rfl (hJ44 x3 u6)
      · skip
        refine g_lload C 23 3 dX6_inLowestTerms_23 rfl ?_
        refine g_lload C 25 4 dX6_inLowestTerms_25 rfl ?_
        refine g_lrem C 27 dX6_inLowestTerms_27 ?_
        refine g_lstoreV C 28 (fun v8 => [(10, .long v8), (0, .long p1), (2, .long p2), (4, .int p3), (5, .long x3), (7, .long x4), (9, .int x5)]) dX6_inLowestTerms_28 (by decide) (fun _ => rfl) (fun v8 => ?_)
        refine g_lload C 30 5 dX6_inLowestTerms_30 rfl ?_
        refine g_lstore C 32 [(5, .long x4), (10, .long v8), (0, .long p1), (2, .long p2), (4, .int p3), (7, .long x4), (9, .int x5)] dX6_inLowestTerms_32 (by decide) rfl ?_
        refine g_lload C 34 1 dX6_inLowestTerms_34 rfl ?_
        refine g_lstore C 36 [(7, .long v8), (5, .long x4), (10, .long v8), (0, .long p1), (2, .long p2), (4, .int p3), (9, .int x5)] dX6_inLowestTerms_36 (by decide) rfl ?_
        refine g_iinc C 38 6 [(9, .int (x5 + 1)), (7, .long v8), (5, .long x4), (10, .long v8), (0, .long p1), (2, .long p2), (4, .int p3)] dX6_inLowestTerms_38 rfl rfl (by decide) rfl ?_
        refine g_goto C 41 9 dX6_inLowestTerms_41 (by decide) ?_
        exact g_sub _ [4, 5, 6, 2, 1, 0] rfl (hself7 x4 v8 (x5 + 1) u6)
